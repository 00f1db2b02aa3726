def fL_rows_465 (nu : Nat → Int32) (qu : Nat → Int32) (sc : Nat → Int32) (lo : Nat → Int32) (pl : Int32) (hs : Int32) : Option (Int32) :=
  some (0)

def fL_rows_408 (nu : Nat → Int32) (qu : Nat → Int32) (sc : Nat → Int32) (lo : Nat → Int32) (pl : Int32) (hs : Int32) (x3 : Int32) (x5 : Int32) (x6 : Int32) (x8 : Int32) : Option (Int32) :=
  (if x5 = 0 then
  fL_rows_465 nu qu sc lo pl hs
  else
  ob1 (fX4_shown nu sc) fun r_1 =>
  (if r_1 = x6 then
  ob1 (fX4_ofMissing nu lo x8 (0 : Int32)) fun r_3 =>
  (if r_3 = (-1) then
  ob1 (fX4_count nu pl hs (15 : Int32)) fun r_5 =>
  (if r_5 = (-6) then
  (if x3 = 0 then
  some (1)
  else
  fL_rows_465 nu qu sc lo pl hs)
  else
  (if x3 = 0 then
  fL_rows_465 nu qu sc lo pl hs
  else
  some (1)))
  else
  fL_rows_465 nu qu sc lo pl hs)
  else
  fL_rows_465 nu qu sc lo pl hs))

def fL_rows_311_b (rec : (Nat → Int32) → (Nat → Int32) → (Nat → Int32) → (Nat → Int32) → Int32 → Int32 → Int32 → Int32 → Int32 → Int32 → Int32 → Int32 → Option (Int32)) (nu : Nat → Int32) (qu : Nat → Int32) (sc : Nat → Int32) (lo : Nat → Int32) (pl : Int32) (hs : Int32) (x3 : Int32) (x5 : Int32) (x6 : Int32) (x8 : Int32) (x9 : Int32) (x10 : Int32) : Option (Int32) :=
  (if x8 ≤ x10 then
  fL_rows_408 nu qu sc lo pl hs x3 x5 x6 x8
  else
  (if x5 = 0 then
  fL_rows_408 nu qu sc lo pl hs x3 x5 x6 x8
  else
  ob1 (fX4_ofMissing nu lo x10 (3 : Int32)) fun r_1 =>
  (if x9 < r_1 then
  ob1 (fX4_ofMissing nu lo x10 (3 : Int32)) fun r_3 =>
  nm (x10 + 1) fun x10_5 =>
  rec nu qu sc lo pl hs x3 0 x6 x8 r_3 x10_5
  else
  ob1 (fX4_ofMissing nu lo x10 (2 : Int32)) fun r_6 =>
  (if r_6 < 0 then
  ob1 (fX4_ofMissing nu lo x10 (3 : Int32)) fun r_8 =>
  nm (x10 + 1) fun x10_10 =>
  rec nu qu sc lo pl hs x3 0 x6 x8 r_8 x10_10
  else
  ob1 (fX4_ofMissing nu lo x10 (2 : Int32)) fun r_11 =>
  (if 3 ≤ r_11 then
  ob1 (fX4_ofMissing nu lo x10 (3 : Int32)) fun r_13 =>
  nm (x10 + 1) fun x10_15 =>
  rec nu qu sc lo pl hs x3 0 x6 x8 r_13 x10_15
  else
  ob1 (fX4_ofMissing nu lo x10 (0 : Int32)) fun r_16 =>
  ob1 (fX4_count nu pl hs (19 : Int32)) fun r_18 =>
  ob1 (fX4_ofMissing nu lo x10 (1 : Int32)) fun r_20 =>
  ob1 (fX4_count nu pl hs (1 : Int32)) fun r_22 =>
  (if r_22 ≤ ((r_16 * r_18) + r_20) then
  ob1 (fX4_ofMissing nu lo x10 (3 : Int32)) fun r_24 =>
  nm (x10 + 1) fun x10_26 =>
  rec nu qu sc lo pl hs x3 0 x6 x8 r_24 x10_26
  else
  ob1 (fX4_ofMissing nu lo x10 (3 : Int32)) fun r_27 =>
  nm (x10 + 1) fun x10_29 =>
  rec nu qu sc lo pl hs x3 1 x6 x8 r_27 x10_29))))))
def fL_rows_311 : Nat → (Nat → Int32) → (Nat → Int32) → (Nat → Int32) → (Nat → Int32) → Int32 → Int32 → Int32 → Int32 → Int32 → Int32 → Int32 → Int32 → Option (Int32)
  | 0 => fun _ _ _ _ _ _ _ _ _ _ _ _ => none
  | n + 1 => fL_rows_311_b (fL_rows_311 n)

def fL_rows_301 (nu : Nat → Int32) (qu : Nat → Int32) (sc : Nat → Int32) (lo : Nat → Int32) (pl : Int32) (hs : Int32) (x3 : Int32) (x5 : Int32) (x6 : Int32) (x8 : Int32) : Option (Int32) :=
  ob1 (fX4_count nu pl hs (0 : Int32)) fun r_1 =>
  fL_rows_311 KF nu qu sc lo pl hs x3 x5 x6 x8 r_1 0

def fL_rows_279 (nu : Nat → Int32) (qu : Nat → Int32) (sc : Nat → Int32) (lo : Nat → Int32) (pl : Int32) (hs : Int32) (x3 : Int32) (x5 : Int32) (x6 : Int32) : Option (Int32) :=
  ob1 (fX4_count nu pl hs (4 : Int32)) fun r_1 =>
  (if 8 ≤ r_1 then
  fL_rows_301 nu qu sc lo pl hs x3 x5 x6 8
  else
  ob1 (fX4_count nu pl hs (4 : Int32)) fun r_3 =>
  fL_rows_301 nu qu sc lo pl hs x3 x5 x6 r_3)

def fL_rows_136_b (rec : (Nat → Int32) → (Nat → Int32) → (Nat → Int32) → (Nat → Int32) → Int32 → Int32 → Int32 → Int32 → Int32 → Int32 → Int32 → Int32 → Option (Int32)) (nu : Nat → Int32) (qu : Nat → Int32) (sc : Nat → Int32) (lo : Nat → Int32) (pl : Int32) (hs : Int32) (x1 : Int32) (x3 : Int32) (x5 : Int32) (x6 : Int32) (x7 : Int32) (x8 : Int32) : Option (Int32) :=
  (if x1 ≤ x8 then
  fL_rows_279 nu qu sc lo pl hs x3 x5 x6
  else
  (if x5 = 0 then
  fL_rows_279 nu qu sc lo pl hs x3 x5 x6
  else
  ob1 (fX4_row nu sc x8 (1 : Int32)) fun r_1 =>
  (if r_1 < 0 then
  ob1 (fX4_row nu sc x8 (0 : Int32)) fun r_3 =>
  (if r_3 = (-6) then
  ob1 (fX4_count nu pl hs (5 : Int32)) fun r_27 =>
  (if x8 < r_27 then
  (if x7 = 0 then
  nm ((x6 + 0)) fun x6_29 =>
  nm (x8 + 1) fun x8_30 =>
  rec nu qu sc lo pl hs x1 x3 0 x6_29 0 x8_30
  else
  nm ((x6 + 0)) fun x6_31 =>
  nm (x8 + 1) fun x8_32 =>
  rec nu qu sc lo pl hs x1 x3 0 x6_31 0 x8_32)
  else
  ob1 (fX4_row nu sc x8 (2 : Int32)) fun r_33 =>
  (if r_33 < 0 then
  ob1 (fX4_count nu pl hs (5 : Int32)) fun r_35 =>
  (if x8 < r_35 then
  (if x7 = 0 then
  nm ((x6 + 0)) fun x6_37 =>
  nm (x8 + 1) fun x8_38 =>
  rec nu qu sc lo pl hs x1 x3 1 x6_37 0 x8_38
  else
  nm ((x6 + 0)) fun x6_39 =>
  nm (x8 + 1) fun x8_40 =>
  rec nu qu sc lo pl hs x1 x3 1 x6_39 0 x8_40)
  else
  (if x7 = 0 then
  nm ((x6 + 0)) fun x6_41 =>
  nm (x8 + 1) fun x8_42 =>
  rec nu qu sc lo pl hs x1 x3 1 x6_41 0 x8_42
  else
  nm ((x6 + 0)) fun x6_43 =>
  nm (x8 + 1) fun x8_44 =>
  rec nu qu sc lo pl hs x1 x3 1 x6_43 0 x8_44))
  else
  (if x7 = 0 then
  nm ((x6 + 0)) fun x6_45 =>
  nm (x8 + 1) fun x8_46 =>
  rec nu qu sc lo pl hs x1 x3 0 x6_45 0 x8_46
  else
  nm ((x6 + 0)) fun x6_47 =>
  nm (x8 + 1) fun x8_48 =>
  rec nu qu sc lo pl hs x1 x3 0 x6_47 0 x8_48)))
  else
  ob1 (fX4_count nu pl hs (5 : Int32)) fun r_5 =>
  (if x8 < r_5 then
  ob1 (fX4_row nu sc x8 (2 : Int32)) fun r_7 =>
  (if r_7 < 0 then
  ob1 (fX4_count nu pl hs (5 : Int32)) fun r_9 =>
  (if x8 < r_9 then
  (if x7 = 0 then
  nm ((x6 + 0)) fun x6_11 =>
  nm (x8 + 1) fun x8_12 =>
  rec nu qu sc lo pl hs x1 x3 1 x6_11 0 x8_12
  else
  nm ((x6 + 0)) fun x6_13 =>
  nm (x8 + 1) fun x8_14 =>
  rec nu qu sc lo pl hs x1 x3 1 x6_13 0 x8_14)
  else
  (if x7 = 0 then
  nm ((x6 + 0)) fun x6_15 =>
  nm (x8 + 1) fun x8_16 =>
  rec nu qu sc lo pl hs x1 x3 1 x6_15 0 x8_16
  else
  nm ((x6 + 0)) fun x6_17 =>
  nm (x8 + 1) fun x8_18 =>
  rec nu qu sc lo pl hs x1 x3 1 x6_17 0 x8_18))
  else
  (if x7 = 0 then
  nm ((x6 + 0)) fun x6_19 =>
  nm (x8 + 1) fun x8_20 =>
  rec nu qu sc lo pl hs x1 x3 0 x6_19 0 x8_20
  else
  nm ((x6 + 0)) fun x6_21 =>
  nm (x8 + 1) fun x8_22 =>
  rec nu qu sc lo pl hs x1 x3 0 x6_21 0 x8_22))
  else
  (if x7 = 0 then
  nm ((x6 + 0)) fun x6_23 =>
  nm (x8 + 1) fun x8_24 =>
  rec nu qu sc lo pl hs x1 x3 0 x6_23 0 x8_24
  else
  nm ((x6 + 0)) fun x6_25 =>
  nm (x8 + 1) fun x8_26 =>
  rec nu qu sc lo pl hs x1 x3 0 x6_25 0 x8_26)))
  else
  ob1 (fX4_row nu sc x8 (0 : Int32)) fun r_49 =>
  (if r_49 = (-6) then
  ob1 (fX4_count nu pl hs (5 : Int32)) fun r_73 =>
  (if x8 < r_73 then
  (if x7 = 0 then
  nm ((x6 + 0)) fun x6_75 =>
  nm (x8 + 1) fun x8_76 =>
  rec nu qu sc lo pl hs x1 x3 0 x6_75 0 x8_76
  else
  nm ((x6 + 1)) fun x6_77 =>
  nm (x8 + 1) fun x8_78 =>
  rec nu qu sc lo pl hs x1 x3 0 x6_77 1 x8_78)
  else
  ob1 (fX4_row nu sc x8 (2 : Int32)) fun r_79 =>
  (if r_79 < 0 then
  (if x7 = 0 then
  nm ((x6 + 0)) fun x6_81 =>
  nm (x8 + 1) fun x8_82 =>
  rec nu qu sc lo pl hs x1 x3 0 x6_81 0 x8_82
  else
  nm ((x6 + 1)) fun x6_83 =>
  nm (x8 + 1) fun x8_84 =>
  rec nu qu sc lo pl hs x1 x3 0 x6_83 1 x8_84)
  else
  ob1 (fX4_count nu pl hs (5 : Int32)) fun r_85 =>
  (if x8 < r_85 then
  (if x7 = 0 then
  nm ((x6 + 0)) fun x6_87 =>
  nm (x8 + 1) fun x8_88 =>
  rec nu qu sc lo pl hs x1 x3 1 x6_87 0 x8_88
  else
  nm ((x6 + 1)) fun x6_89 =>
  nm (x8 + 1) fun x8_90 =>
  rec nu qu sc lo pl hs x1 x3 1 x6_89 1 x8_90)
  else
  (if x7 = 0 then
  nm ((x6 + 0)) fun x6_91 =>
  nm (x8 + 1) fun x8_92 =>
  rec nu qu sc lo pl hs x1 x3 0 x6_91 0 x8_92
  else
  nm ((x6 + 1)) fun x6_93 =>
  nm (x8 + 1) fun x8_94 =>
  rec nu qu sc lo pl hs x1 x3 0 x6_93 1 x8_94))))
  else
  ob1 (fX4_count nu pl hs (5 : Int32)) fun r_51 =>
  (if x8 < r_51 then
  ob1 (fX4_row nu sc x8 (2 : Int32)) fun r_53 =>
  (if r_53 < 0 then
  (if x7 = 0 then
  nm ((x6 + 0)) fun x6_55 =>
  nm (x8 + 1) fun x8_56 =>
  rec nu qu sc lo pl hs x1 x3 0 x6_55 0 x8_56
  else
  nm ((x6 + 1)) fun x6_57 =>
  nm (x8 + 1) fun x8_58 =>
  rec nu qu sc lo pl hs x1 x3 0 x6_57 1 x8_58)
  else
  ob1 (fX4_count nu pl hs (5 : Int32)) fun r_59 =>
  (if x8 < r_59 then
  (if x7 = 0 then
  nm ((x6 + 0)) fun x6_61 =>
  nm (x8 + 1) fun x8_62 =>
  rec nu qu sc lo pl hs x1 x3 1 x6_61 0 x8_62
  else
  nm ((x6 + 1)) fun x6_63 =>
  nm (x8 + 1) fun x8_64 =>
  rec nu qu sc lo pl hs x1 x3 1 x6_63 1 x8_64)
  else
  (if x7 = 0 then
  nm ((x6 + 0)) fun x6_65 =>
  nm (x8 + 1) fun x8_66 =>
  rec nu qu sc lo pl hs x1 x3 0 x6_65 0 x8_66
  else
  nm ((x6 + 1)) fun x6_67 =>
  nm (x8 + 1) fun x8_68 =>
  rec nu qu sc lo pl hs x1 x3 0 x6_67 1 x8_68)))
  else
  (if x7 = 0 then
  nm ((x6 + 0)) fun x6_69 =>
  nm (x8 + 1) fun x8_70 =>
  rec nu qu sc lo pl hs x1 x3 0 x6_69 0 x8_70
  else
  nm ((x6 + 1)) fun x6_71 =>
  nm (x8 + 1) fun x8_72 =>
  rec nu qu sc lo pl hs x1 x3 0 x6_71 1 x8_72))))))
def fL_rows_136 : Nat → (Nat → Int32) → (Nat → Int32) → (Nat → Int32) → (Nat → Int32) → Int32 → Int32 → Int32 → Int32 → Int32 → Int32 → Int32 → Int32 → Option (Int32)
  | 0 => fun _ _ _ _ _ _ _ _ _ _ _ _ => none
  | n + 1 => fL_rows_136_b (fL_rows_136 n)

def fL_rows_127 (nu : Nat → Int32) (qu : Nat → Int32) (sc : Nat → Int32) (lo : Nat → Int32) (pl : Int32) (hs : Int32) (x1 : Int32) (x3 : Int32) (x5 : Int32) : Option (Int32) :=
  fL_rows_136 KF nu qu sc lo pl hs x1 x3 x5 0 1 0

def fL_rows_124 (nu : Nat → Int32) (qu : Nat → Int32) (sc : Nat → Int32) (lo : Nat → Int32) (pl : Int32) (hs : Int32) (x1 : Int32) (x3 : Int32) : Option (Int32) :=
  fL_rows_127 nu qu sc lo pl hs x1 x3 0

def fL_rows_28 (nu : Nat → Int32) (qu : Nat → Int32) (sc : Nat → Int32) (lo : Nat → Int32) (pl : Int32) (hs : Int32) (x1 : Int32) (x2 : Int32) : Option (Int32) :=
  ob1 (fX4_count nu pl hs (12 : Int32)) fun r_1 =>
  ob1 (fX4_count nu pl hs (13 : Int32)) fun r_3 =>
  ob1 (fX4_count nu pl hs (14 : Int32)) fun r_5 =>
  nm (((r_1 + r_3) + r_5)) fun x3_7 =>
  ob1 (fX4_count nu pl hs (5 : Int32)) fun r_8 =>
  ob1 (fX4_count nu pl hs (3 : Int32)) fun r_10 =>
  ob1 (fX4_count nu pl hs (6 : Int32)) fun r_12 =>
  nm ((((r_8 - (2 * r_10)) - x2) - r_12)) fun x4_14 =>
  (if x4_14 < 0 then
  fL_rows_124 nu qu sc lo pl hs x1 x3_7
  else
  ob1 (fX4_count nu pl hs (4 : Int32)) fun r_15 =>
  (if r_15 < x4_14 then
  fL_rows_124 nu qu sc lo pl hs x1 x3_7
  else
  ob1 (fX4_count nu pl hs (5 : Int32)) fun r_17 =>
  ob1 (fX4_count nu pl hs (7 : Int32)) fun r_19 =>
  (if r_17 = ((x3_7 * x1) + r_19) then
  ob1 (fX4_count nu pl hs (6 : Int32)) fun r_21 =>
  ob1 (fX4_count nu pl hs (5 : Int32)) fun r_23 =>
  (if r_23 < r_21 then
  fL_rows_124 nu qu sc lo pl hs x1 x3_7
  else
  fL_rows_127 nu qu sc lo pl hs x1 x3_7 1)
  else
  fL_rows_124 nu qu sc lo pl hs x1 x3_7)))

/-- the mirror of L_rows -/
def fL_rows (nu : Nat → Int32) (qu : Nat → Int32) (sc : Nat → Int32) (lo : Nat → Int32) (pl : Int32) (hs : Int32) : Option (Int32) :=
  ob1 (fX4_count nu pl hs (19 : Int32)) fun r_1 =>
  nm ((2 * r_1)) fun x1_3 =>
  ob1 (fX4_count nu pl hs (2 : Int32)) fun r_4 =>
  (if r_4 ≤ 0 then
  fL_rows_28 nu qu sc lo pl hs x1_3 0
  else
  ob1 (fX4_waiting nu qu (0 : Int32) (3 : Int32)) fun r_6 =>
  fL_rows_28 nu qu sc lo pl hs x1_3 r_6)

def rm_L_rows : Room := { frames := 4, cells := 0, slots := 0, locals := 85 }
set_option maxRecDepth 20000 in
theorem cw_L_rows_X4_count_9 {s : State} {args : Array Value} (hts : ∀ w ∈ wsL_rows, w.before args s = true) : CallW rm_L_rows s args RL RX4 9 yX4_count cX4_count 2 (some .int) wsX4_count rm_X4_count 0 0 1 :=
  cwV 1 hts gL_rows_X4_count rfl rfl rfl (by decide +kernel) ⟨Nat.le_of_ble_eq_true rfl, Nat.le_of_ble_eq_true rfl⟩
set_option maxRecDepth 20000 in
theorem cw_L_rows_X4_waiting_15 {s : State} {args : Array Value} (hts : ∀ w ∈ wsL_rows, w.before args s = true) : CallW rm_L_rows s args RL RX4 15 yX4_waiting cX4_waiting 3 (some .int) wsX4_waiting rm_X4_waiting 0 0 2 :=
  cwV 2 hts gL_rows_X4_waiting rfl rfl rfl (by decide +kernel) ⟨Nat.le_of_ble_eq_true rfl, Nat.le_of_ble_eq_true rfl⟩
set_option maxRecDepth 20000 in
theorem cw_L_rows_X4_shown_25 {s : State} {args : Array Value} (hts : ∀ w ∈ wsL_rows, w.before args s = true) : CallW rm_L_rows s args RL RX4 25 yX4_shown cX4_shown 3 (some .int) wsX4_shown rm_X4_shown 0 0 0 :=
  cwV 0 hts gL_rows_X4_shown rfl rfl rfl (by decide +kernel) ⟨Nat.le_of_ble_eq_true rfl, Nat.le_of_ble_eq_true rfl⟩
set_option maxRecDepth 20000 in
theorem cw_L_rows_X4_ofMissing_22 {s : State} {args : Array Value} (hts : ∀ w ∈ wsL_rows, w.before args s = true) : CallW rm_L_rows s args RL RX4 22 yX4_ofMissing cX4_ofMissing 3 (some .int) wsX4_ofMissing rm_X4_ofMissing 0 0 2 :=
  cwV 2 hts gL_rows_X4_ofMissing rfl rfl rfl (by decide +kernel) ⟨Nat.le_of_ble_eq_true rfl, Nat.le_of_ble_eq_true rfl⟩
set_option maxRecDepth 20000 in
theorem cw_L_rows_X4_row_19 {s : State} {args : Array Value} (hts : ∀ w ∈ wsL_rows, w.before args s = true) : CallW rm_L_rows s args RL RX4 19 yX4_row cX4_row 3 (some .int) wsX4_row rm_X4_row 0 0 2 :=
  cwV 2 hts gL_rows_X4_row rfl rfl rfl (by decide +kernel) ⟨Nat.le_of_ble_eq_true rfl, Nat.le_of_ble_eq_true rfl⟩
set_option maxHeartbeats 4000000 in
set_option maxRecDepth 100000 in
theorem c_L_rows (l : Launch) (G : va_G) (cI cC cZ : ClassId) (X : List (ClassId × FieldType)) (d0 b0 sl a0 a1 a2 a3 a4 a5 a6 a7 a8 p0 p1 h0 h1 : Nat) (nu : Nat → Int32) (va : Nat → Int32) (qu : Nat → Int32) (sc : Nat → Int32) (lo : Nat → Int32) (wt : Int32) (ch : Nat → Int32) (pl : Int32) (pa : Int32) (po : Int32) (pf : Int32) (ps : Int32) (ho : Int32) (hs : Int32) (rv : Int32) (hf : fL_rows nu qu sc lo pl hs = some (rv)) : CT l yL_rows wsL_rows rm_L_rows G (TY cI cC cZ X) [.ref d0] (wLDc cI cC d0 b0 sl a0 a1 a2 a3 a4 a5 a6 a7 a8 p0 p1 h0 h1 nu va qu sc lo wt ch pl pa po pf ps ho hs) (some (.int rv)) (wLDc cI cC d0 b0 sl a0 a1 a2 a3 a4 a5 a6 a7 a8 p0 p1 h0 h1 nu va qu sc lo wt ch pl pa po pf ps ho hs) := by
  refine CT.of (cc := cL_rows) (maxL := 11) (ret := (some .boolean)) RL rfl (by decide) rfl (Nat.le_of_ble_eq_true rfl) ?_
  intro p e s m args below meth c A ls C hr hlocks hnm h hl
  have hx := C.hx
  have hb := C.hb
  have hl : lv_has ls 11 [(0, .ref d0)] := hl
  have cut_465 : ∀ (H : Heap) (locs : List Loc) (ls : Array Slot), Hx s G A (wLDc cI cC d0 b0 sl a0 a1 a2 a3 a4 a5 a6 a7 a8 p0 p1 h0 h1 nu va qu sc lo wt ch pl pa po pf ps ho hs) H locs → lv_has ls 11 [] → fL_rows_465 nu qu sc lo pl hs = some (rv) → W p l e rm_L_rows s m args below meth c H locs 0 0 (MQ below (Qx G (some (.int rv)) (wLDc cI cC d0 b0 sl a0 a1 a2 a3 a4 a5 a6 a7 a8 p0 p1 h0 h1 nu va qu sc lo wt ch pl pa po pf ps ho hs) A) args s 0 0 A) (F0 m 465 ls []) := by
    intro H locs ls h hl hf
    unfold fL_rows_465 at hf
    refine lv_iconst (v := 0) hx hb dL_rows_465 (by decide) ?_
    cases hf
    exact r_zret C h hr hlocks rfl dL_rows_466
  have cut_408 : ∀ (x3 : Int32) (x5 : Int32) (x6 : Int32) (x8 : Int32) (H : Heap) (locs : List Loc) (ls : Array Slot), Hx s G A (wLDc cI cC d0 b0 sl a0 a1 a2 a3 a4 a5 a6 a7 a8 p0 p1 h0 h1 nu va qu sc lo wt ch pl pa po pf ps ho hs) H locs → lv_has ls 11 [(0, .ref d0), (3, .int x3), (5, .int x5), (6, .int x6), (8, .int x8)] → fL_rows_408 nu qu sc lo pl hs x3 x5 x6 x8 = some (rv) → W p l e rm_L_rows s m args below meth c H locs 0 0 (MQ below (Qx G (some (.int rv)) (wLDc cI cC d0 b0 sl a0 a1 a2 a3 a4 a5 a6 a7 a8 p0 p1 h0 h1 nu va qu sc lo wt ch pl pa po pf ps ho hs) A) args s 0 0 A) (F0 m 408 ls []) := by
    intro x3 x5 x6 x8 H locs ls h hl hf
    unfold fL_rows_408 at hf
    refine lv_iload hx hb dL_rows_408 (lv_at hl 2 rfl) ?_
    refine lv_if_eq (tgt := 465) hx hb dL_rows_410 (by decide) (fun hc => ?_) (fun hc => ?_)
    · replace hf := it_t hf hc
      exact cut_465 _ _ _ h (lv_sub hl [] rfl) hf
    · replace hf := it_f hf hc
      refine lv_aload_n hx hb dL_rows_413 rfl (lv_at hl 0 rfl) ?_
      obtain ⟨r_1, hq_2, hf⟩ := ob1_use hf
      refine r_callV0 C h (cw_L_rows_X4_shown_25 C.hts) (rest := []) (ci := 4) (N := 5) (Cn := RX4) (T := TX4) (c_X4_shown l G cI cC cZ X d0 b0 sl h0 p0 a0 a1 a2 a3 a4 a5 a6 a7 a8 nu va qu sc lo wt r_1 hq_2) [0, 1, 2, 3, 4, 5, 6, 7, 8, 9] rfl rfl rfl 0 rfl rfl hl.1 rfl (Nat.le_of_ble_eq_true rfl) ⟨Nat.le_of_ble_eq_true rfl, Nat.le_of_ble_eq_true rfl⟩ rfl dL_rows_414 (fun H locs h => ?_)
      refine lv_iload hx hb dL_rows_417 (lv_at hl 3 rfl) ?_
      refine lv_icmp_ne (tgt := 465) hx hb dL_rows_419 (by decide) (fun hc => ?_) (fun hc => ?_)
      · replace hf := it_f hf hc
        exact cut_465 _ _ _ h (lv_sub hl [] rfl) hf
      · replace hf := it_t hf hc
        refine lv_aload_n hx hb dL_rows_422 rfl (lv_at hl 0 rfl) ?_
        refine lv_iload hx hb dL_rows_423 (lv_at hl 4 rfl) ?_
        refine lv_iconst (v := 0) hx hb dL_rows_425 (by decide) ?_
        obtain ⟨r_3, hq_4, hf⟩ := ob1_use hf
        refine r_callV0 C h (cw_L_rows_X4_ofMissing_22 C.hts) (rest := []) (ci := 4) (N := 5) (Cn := RX4) (T := TX4) (c_X4_ofMissing l G cI cC cZ X d0 b0 sl h0 p0 a0 a1 a2 a3 a4 a5 a6 a7 a8 nu va qu sc lo wt x8 (0 : Int32) r_3 hq_4) [0, 1, 2, 3, 4, 5, 6, 7, 8, 9] rfl rfl rfl 0 rfl rfl hl.1 rfl (Nat.le_of_ble_eq_true rfl) ⟨Nat.le_of_ble_eq_true rfl, Nat.le_of_ble_eq_true rfl⟩ rfl dL_rows_426 (fun H locs h => ?_)
        refine lv_iconst (v := (-1)) hx hb dL_rows_429 (by decide) ?_
        refine lv_icmp_ne (tgt := 465) hx hb dL_rows_430 (by decide) (fun hc => ?_) (fun hc => ?_)
        · replace hf := it_f hf hc
          exact cut_465 _ _ _ h (lv_sub hl [] rfl) hf
        · replace hf := it_t hf hc
          refine lv_aload_n hx hb dL_rows_433 rfl (lv_at hl 0 rfl) ?_
          refine lv_bipush (v := 15) hx hb dL_rows_434 (by decide) ?_
          obtain ⟨r_5, hq_6, hf⟩ := ob1_use hf
          refine r_callV0 C h (cw_L_rows_X4_count_9 C.hts) (rest := []) (ci := 4) (N := 5) (Cn := RX4) (T := TX4) (c_X4_count l G cI cC cZ X d0 b0 sl a0 a1 a2 a3 a4 a5 a6 a7 a8 p0 p1 h0 h1 nu va qu sc lo wt ch pl pa po pf ps ho hs (15 : Int32) r_5 hq_6) [0, 1, 2, 3, 4, 5, 6, 7, 8, 9, 10, 11, 12] rfl rfl rfl 0 rfl rfl hl.1 rfl (Nat.le_of_ble_eq_true rfl) ⟨Nat.le_of_ble_eq_true rfl, Nat.le_of_ble_eq_true rfl⟩ rfl dL_rows_436 (fun H locs h => ?_)
          refine lv_bipush (v := (-6)) hx hb dL_rows_439 (by decide) ?_
          refine lv_icmp_ne (tgt := 448) hx hb dL_rows_441 (by decide) (fun hc => ?_) (fun hc => ?_)
          · replace hf := it_f hf hc
            refine lv_iconst (v := 0) hx hb dL_rows_448 (by decide) ?_
            refine lv_iload_n hx hb dL_rows_449 rfl (lv_at hl 1 rfl) ?_
            refine lv_if_ne (tgt := 457) hx hb dL_rows_450 (by decide) (fun hc => ?_) (fun hc => ?_)
            · replace hf := it_f hf hc
              refine lv_iconst (v := 0) hx hb dL_rows_457 (by decide) ?_
              refine lv_icmp_ne (tgt := 465) hx hb dL_rows_458 (by decide) (fun hc => absurd hc (by decide)) (fun _ => ?_)
              refine lv_iconst (v := 1) hx hb dL_rows_461 (by decide) ?_
              refine lv_goto (tgt := 466) hx hb dL_rows_462 (by decide) ?_
              cases hf
              exact r_zret C h hr hlocks rfl dL_rows_466
            · replace hf := it_t hf hc
              refine lv_iconst (v := 1) hx hb dL_rows_453 (by decide) ?_
              refine lv_goto (tgt := 458) hx hb dL_rows_454 (by decide) ?_
              refine lv_icmp_ne (tgt := 465) hx hb dL_rows_458 (by decide) (fun _ => ?_) (fun hc => absurd hc (by decide))
              exact cut_465 _ _ _ h (lv_sub hl [] rfl) hf
          · replace hf := it_t hf hc
            refine lv_iconst (v := 1) hx hb dL_rows_444 (by decide) ?_
            refine lv_goto (tgt := 449) hx hb dL_rows_445 (by decide) ?_
            refine lv_iload_n hx hb dL_rows_449 rfl (lv_at hl 1 rfl) ?_
            refine lv_if_ne (tgt := 457) hx hb dL_rows_450 (by decide) (fun hc => ?_) (fun hc => ?_)
            · replace hf := it_f hf hc
              refine lv_iconst (v := 0) hx hb dL_rows_457 (by decide) ?_
              refine lv_icmp_ne (tgt := 465) hx hb dL_rows_458 (by decide) (fun _ => ?_) (fun hc => absurd hc (by decide))
              exact cut_465 _ _ _ h (lv_sub hl [] rfl) hf
            · replace hf := it_t hf hc
              refine lv_iconst (v := 1) hx hb dL_rows_453 (by decide) ?_
              refine lv_goto (tgt := 458) hx hb dL_rows_454 (by decide) ?_
              refine lv_icmp_ne (tgt := 465) hx hb dL_rows_458 (by decide) (fun hc => absurd hc (by decide)) (fun _ => ?_)
              refine lv_iconst (v := 1) hx hb dL_rows_461 (by decide) ?_
              refine lv_goto (tgt := 466) hx hb dL_rows_462 (by decide) ?_
              cases hf
              exact r_zret C h hr hlocks rfl dL_rows_466
  have cut_311 : ∀ (n : Nat) (x3 : Int32) (x5 : Int32) (x6 : Int32) (x8 : Int32) (x9 : Int32) (x10 : Int32) (H : Heap) (locs : List Loc) (ls : Array Slot), Hx s G A (wLDc cI cC d0 b0 sl a0 a1 a2 a3 a4 a5 a6 a7 a8 p0 p1 h0 h1 nu va qu sc lo wt ch pl pa po pf ps ho hs) H locs → lv_has ls 11 [(0, .ref d0), (3, .int x3), (5, .int x5), (6, .int x6), (8, .int x8), (9, .int x9), (10, .int x10)] → fL_rows_311 n nu qu sc lo pl hs x3 x5 x6 x8 x9 x10 = some (rv) → W p l e rm_L_rows s m args below meth c H locs 0 0 (MQ below (Qx G (some (.int rv)) (wLDc cI cC d0 b0 sl a0 a1 a2 a3 a4 a5 a6 a7 a8 p0 p1 h0 h1 nu va qu sc lo wt ch pl pa po pf ps ho hs) A) args s 0 0 A) (F0 m 311 ls []) := by
    intro n
    induction n with
    | zero =>
      intro x3 x5 x6 x8 x9 x10 H locs ls h hl hf
      exact (nn_some _ hf).elim
    | succ n ih =>
      intro x3 x5 x6 x8 x9 x10 H locs ls h hl hf
      have hf : fL_rows_311_b (fL_rows_311 n) nu qu sc lo pl hs x3 x5 x6 x8 x9 x10 = some (rv) := hf
      unfold fL_rows_311_b at hf
      refine lv_iload hx hb dL_rows_311 (lv_at hl 6 rfl) ?_
      refine lv_iload hx hb dL_rows_313 (lv_at hl 4 rfl) ?_
      refine lv_icmp_ge (tgt := 408) hx hb dL_rows_315 (by decide) (fun hc => ?_) (fun hc => ?_)
      · replace hf := it_t hf hc
        exact cut_408 x3 x5 x6 x8 _ _ _ h (lv_sub hl [0, 1, 2, 3, 4] rfl) hf
      · replace hf := it_f hf hc
        refine lv_iload hx hb dL_rows_318 (lv_at hl 2 rfl) ?_
        refine lv_if_eq (tgt := 408) hx hb dL_rows_320 (by decide) (fun hc => ?_) (fun hc => ?_)
        · replace hf := it_t hf hc
          exact cut_408 x3 x5 x6 x8 _ _ _ h (lv_sub hl [0, 1, 2, 3, 4] rfl) hf
        · replace hf := it_f hf hc
          refine lv_aload_n hx hb dL_rows_323 rfl (lv_at hl 0 rfl) ?_
          refine lv_iload hx hb dL_rows_324 (lv_at hl 6 rfl) ?_
          refine lv_iconst (v := 3) hx hb dL_rows_326 (by decide) ?_
          obtain ⟨r_1, hq_2, hf⟩ := ob1_use hf
          refine r_callV0 C h (cw_L_rows_X4_ofMissing_22 C.hts) (rest := []) (ci := 4) (N := 5) (Cn := RX4) (T := TX4) (c_X4_ofMissing l G cI cC cZ X d0 b0 sl h0 p0 a0 a1 a2 a3 a4 a5 a6 a7 a8 nu va qu sc lo wt x10 (3 : Int32) r_1 hq_2) [0, 1, 2, 3, 4, 5, 6, 7, 8, 9] rfl rfl rfl 0 rfl rfl hl.1 rfl (Nat.le_of_ble_eq_true rfl) ⟨Nat.le_of_ble_eq_true rfl, Nat.le_of_ble_eq_true rfl⟩ rfl dL_rows_327 (fun H locs h => ?_)
          refine lv_iload hx hb dL_rows_330 (lv_at hl 5 rfl) ?_
          refine lv_icmp_gt (tgt := 390) hx hb dL_rows_332 (by decide) (fun hc => ?_) (fun hc => ?_)
          · replace hf := it_t hf hc
            refine lv_iconst (v := 0) hx hb dL_rows_390 (by decide) ?_
            refine lv_istore (lv' := [(5, .int 0), (0, .ref d0), (3, .int x3), (6, .int x6), (8, .int x8), (9, .int x9), (10, .int x10)]) hx hb dL_rows_391 hl (by decide) rfl (fun ls hl => ?_)
            refine lv_aload_n hx hb dL_rows_393 rfl (lv_at hl 1 rfl) ?_
            refine lv_iload hx hb dL_rows_394 (lv_at hl 6 rfl) ?_
            refine lv_iconst (v := 3) hx hb dL_rows_396 (by decide) ?_
            obtain ⟨r_3, hq_4, hf⟩ := ob1_use hf
            refine r_callV0 C h (cw_L_rows_X4_ofMissing_22 C.hts) (rest := []) (ci := 4) (N := 5) (Cn := RX4) (T := TX4) (c_X4_ofMissing l G cI cC cZ X d0 b0 sl h0 p0 a0 a1 a2 a3 a4 a5 a6 a7 a8 nu va qu sc lo wt x10 (3 : Int32) r_3 hq_4) [0, 1, 2, 3, 4, 5, 6, 7, 8, 9] rfl rfl rfl 0 rfl rfl hl.1 rfl (Nat.le_of_ble_eq_true rfl) ⟨Nat.le_of_ble_eq_true rfl, Nat.le_of_ble_eq_true rfl⟩ rfl dL_rows_397 (fun H locs h => ?_)
            refine lv_istore (lv' := [(9, .int r_3), (5, .int 0), (0, .ref d0), (3, .int x3), (6, .int x6), (8, .int x8), (10, .int x10)]) hx hb dL_rows_400 hl (by decide) rfl (fun ls hl => ?_)
            obtain ⟨x10_5, ex10_5⟩ : ∃ y : Int32, y = x10 + 1 := ⟨_, rfl⟩
            replace hf := nm_use hf ex10_5
            refine lv_iinc (v := x10_5) (lv' := [(10, .int x10_5), (9, .int r_3), (5, .int 0), (0, .ref d0), (3, .int x3), (6, .int x6), (8, .int x8)]) hx hb dL_rows_402 hl (k := 6) rfl (by rw [ex10_5]; rfl) (by decide) rfl (fun ls hl => ?_)
            refine lv_goto (tgt := 311) hx hb dL_rows_405 (by decide) ?_
            exact ih x3 0 x6 x8 r_3 x10_5 _ _ _ h (lv_sub hl [3, 4, 2, 5, 6, 1, 0] rfl) hf
          · replace hf := it_f hf hc
            refine lv_aload_n hx hb dL_rows_335 rfl (lv_at hl 0 rfl) ?_
            refine lv_iload hx hb dL_rows_336 (lv_at hl 6 rfl) ?_
            refine lv_iconst (v := 2) hx hb dL_rows_338 (by decide) ?_
            obtain ⟨r_6, hq_7, hf⟩ := ob1_use hf
            refine r_callV0 C h (cw_L_rows_X4_ofMissing_22 C.hts) (rest := []) (ci := 4) (N := 5) (Cn := RX4) (T := TX4) (c_X4_ofMissing l G cI cC cZ X d0 b0 sl h0 p0 a0 a1 a2 a3 a4 a5 a6 a7 a8 nu va qu sc lo wt x10 (2 : Int32) r_6 hq_7) [0, 1, 2, 3, 4, 5, 6, 7, 8, 9] rfl rfl rfl 0 rfl rfl hl.1 rfl (Nat.le_of_ble_eq_true rfl) ⟨Nat.le_of_ble_eq_true rfl, Nat.le_of_ble_eq_true rfl⟩ rfl dL_rows_339 (fun H locs h => ?_)
            refine lv_if_lt (tgt := 390) hx hb dL_rows_342 (by decide) (fun hc => ?_) (fun hc => ?_)
            · replace hf := it_t hf hc
              refine lv_iconst (v := 0) hx hb dL_rows_390 (by decide) ?_
              refine lv_istore (lv' := [(5, .int 0), (0, .ref d0), (3, .int x3), (6, .int x6), (8, .int x8), (9, .int x9), (10, .int x10)]) hx hb dL_rows_391 hl (by decide) rfl (fun ls hl => ?_)
              refine lv_aload_n hx hb dL_rows_393 rfl (lv_at hl 1 rfl) ?_
              refine lv_iload hx hb dL_rows_394 (lv_at hl 6 rfl) ?_
              refine lv_iconst (v := 3) hx hb dL_rows_396 (by decide) ?_
              obtain ⟨r_8, hq_9, hf⟩ := ob1_use hf
              refine r_callV0 C h (cw_L_rows_X4_ofMissing_22 C.hts) (rest := []) (ci := 4) (N := 5) (Cn := RX4) (T := TX4) (c_X4_ofMissing l G cI cC cZ X d0 b0 sl h0 p0 a0 a1 a2 a3 a4 a5 a6 a7 a8 nu va qu sc lo wt x10 (3 : Int32) r_8 hq_9) [0, 1, 2, 3, 4, 5, 6, 7, 8, 9] rfl rfl rfl 0 rfl rfl hl.1 rfl (Nat.le_of_ble_eq_true rfl) ⟨Nat.le_of_ble_eq_true rfl, Nat.le_of_ble_eq_true rfl⟩ rfl dL_rows_397 (fun H locs h => ?_)
              refine lv_istore (lv' := [(9, .int r_8), (5, .int 0), (0, .ref d0), (3, .int x3), (6, .int x6), (8, .int x8), (10, .int x10)]) hx hb dL_rows_400 hl (by decide) rfl (fun ls hl => ?_)
              obtain ⟨x10_10, ex10_10⟩ : ∃ y : Int32, y = x10 + 1 := ⟨_, rfl⟩
              replace hf := nm_use hf ex10_10
              refine lv_iinc (v := x10_10) (lv' := [(10, .int x10_10), (9, .int r_8), (5, .int 0), (0, .ref d0), (3, .int x3), (6, .int x6), (8, .int x8)]) hx hb dL_rows_402 hl (k := 6) rfl (by rw [ex10_10]; rfl) (by decide) rfl (fun ls hl => ?_)
              refine lv_goto (tgt := 311) hx hb dL_rows_405 (by decide) ?_
              exact ih x3 0 x6 x8 r_8 x10_10 _ _ _ h (lv_sub hl [3, 4, 2, 5, 6, 1, 0] rfl) hf
            · replace hf := it_f hf hc
              refine lv_aload_n hx hb dL_rows_345 rfl (lv_at hl 0 rfl) ?_
              refine lv_iload hx hb dL_rows_346 (lv_at hl 6 rfl) ?_
              refine lv_iconst (v := 2) hx hb dL_rows_348 (by decide) ?_
              obtain ⟨r_11, hq_12, hf⟩ := ob1_use hf
              refine r_callV0 C h (cw_L_rows_X4_ofMissing_22 C.hts) (rest := []) (ci := 4) (N := 5) (Cn := RX4) (T := TX4) (c_X4_ofMissing l G cI cC cZ X d0 b0 sl h0 p0 a0 a1 a2 a3 a4 a5 a6 a7 a8 nu va qu sc lo wt x10 (2 : Int32) r_11 hq_12) [0, 1, 2, 3, 4, 5, 6, 7, 8, 9] rfl rfl rfl 0 rfl rfl hl.1 rfl (Nat.le_of_ble_eq_true rfl) ⟨Nat.le_of_ble_eq_true rfl, Nat.le_of_ble_eq_true rfl⟩ rfl dL_rows_349 (fun H locs h => ?_)
              refine lv_iconst (v := 3) hx hb dL_rows_352 (by decide) ?_
              refine lv_icmp_ge (tgt := 390) hx hb dL_rows_353 (by decide) (fun hc => ?_) (fun hc => ?_)
              · replace hf := it_t hf hc
                refine lv_iconst (v := 0) hx hb dL_rows_390 (by decide) ?_
                refine lv_istore (lv' := [(5, .int 0), (0, .ref d0), (3, .int x3), (6, .int x6), (8, .int x8), (9, .int x9), (10, .int x10)]) hx hb dL_rows_391 hl (by decide) rfl (fun ls hl => ?_)
                refine lv_aload_n hx hb dL_rows_393 rfl (lv_at hl 1 rfl) ?_
                refine lv_iload hx hb dL_rows_394 (lv_at hl 6 rfl) ?_
                refine lv_iconst (v := 3) hx hb dL_rows_396 (by decide) ?_
                obtain ⟨r_13, hq_14, hf⟩ := ob1_use hf
                refine r_callV0 C h (cw_L_rows_X4_ofMissing_22 C.hts) (rest := []) (ci := 4) (N := 5) (Cn := RX4) (T := TX4) (c_X4_ofMissing l G cI cC cZ X d0 b0 sl h0 p0 a0 a1 a2 a3 a4 a5 a6 a7 a8 nu va qu sc lo wt x10 (3 : Int32) r_13 hq_14) [0, 1, 2, 3, 4, 5, 6, 7, 8, 9] rfl rfl rfl 0 rfl rfl hl.1 rfl (Nat.le_of_ble_eq_true rfl) ⟨Nat.le_of_ble_eq_true rfl, Nat.le_of_ble_eq_true rfl⟩ rfl dL_rows_397 (fun H locs h => ?_)
                refine lv_istore (lv' := [(9, .int r_13), (5, .int 0), (0, .ref d0), (3, .int x3), (6, .int x6), (8, .int x8), (10, .int x10)]) hx hb dL_rows_400 hl (by decide) rfl (fun ls hl => ?_)
                obtain ⟨x10_15, ex10_15⟩ : ∃ y : Int32, y = x10 + 1 := ⟨_, rfl⟩
                replace hf := nm_use hf ex10_15
                refine lv_iinc (v := x10_15) (lv' := [(10, .int x10_15), (9, .int r_13), (5, .int 0), (0, .ref d0), (3, .int x3), (6, .int x6), (8, .int x8)]) hx hb dL_rows_402 hl (k := 6) rfl (by rw [ex10_15]; rfl) (by decide) rfl (fun ls hl => ?_)
                refine lv_goto (tgt := 311) hx hb dL_rows_405 (by decide) ?_
                exact ih x3 0 x6 x8 r_13 x10_15 _ _ _ h (lv_sub hl [3, 4, 2, 5, 6, 1, 0] rfl) hf
              · replace hf := it_f hf hc
                refine lv_aload_n hx hb dL_rows_356 rfl (lv_at hl 0 rfl) ?_
                refine lv_iload hx hb dL_rows_357 (lv_at hl 6 rfl) ?_
                refine lv_iconst (v := 0) hx hb dL_rows_359 (by decide) ?_
                obtain ⟨r_16, hq_17, hf⟩ := ob1_use hf
                refine r_callV0 C h (cw_L_rows_X4_ofMissing_22 C.hts) (rest := []) (ci := 4) (N := 5) (Cn := RX4) (T := TX4) (c_X4_ofMissing l G cI cC cZ X d0 b0 sl h0 p0 a0 a1 a2 a3 a4 a5 a6 a7 a8 nu va qu sc lo wt x10 (0 : Int32) r_16 hq_17) [0, 1, 2, 3, 4, 5, 6, 7, 8, 9] rfl rfl rfl 0 rfl rfl hl.1 rfl (Nat.le_of_ble_eq_true rfl) ⟨Nat.le_of_ble_eq_true rfl, Nat.le_of_ble_eq_true rfl⟩ rfl dL_rows_360 (fun H locs h => ?_)
                refine lv_aload_n hx hb dL_rows_363 rfl (lv_at hl 0 rfl) ?_
                refine lv_bipush (v := 19) hx hb dL_rows_364 (by decide) ?_
                obtain ⟨r_18, hq_19, hf⟩ := ob1_use hf
                refine r_callV0 C h (cw_L_rows_X4_count_9 C.hts) (rest := [.int r_16]) (ci := 4) (N := 5) (Cn := RX4) (T := TX4) (c_X4_count l G cI cC cZ X d0 b0 sl a0 a1 a2 a3 a4 a5 a6 a7 a8 p0 p1 h0 h1 nu va qu sc lo wt ch pl pa po pf ps ho hs (19 : Int32) r_18 hq_19) [0, 1, 2, 3, 4, 5, 6, 7, 8, 9, 10, 11, 12] rfl rfl rfl 0 rfl rfl hl.1 rfl (Nat.le_of_ble_eq_true rfl) ⟨Nat.le_of_ble_eq_true rfl, Nat.le_of_ble_eq_true rfl⟩ rfl dL_rows_366 (fun H locs h => ?_)
                refine lv_imul hx hb dL_rows_369 ?_
                refine lv_aload_n hx hb dL_rows_370 rfl (lv_at hl 0 rfl) ?_
                refine lv_iload hx hb dL_rows_371 (lv_at hl 6 rfl) ?_
                refine lv_iconst (v := 1) hx hb dL_rows_373 (by decide) ?_
                obtain ⟨r_20, hq_21, hf⟩ := ob1_use hf
                refine r_callV0 C h (cw_L_rows_X4_ofMissing_22 C.hts) (rest := [.int (r_16 * r_18)]) (ci := 4) (N := 5) (Cn := RX4) (T := TX4) (c_X4_ofMissing l G cI cC cZ X d0 b0 sl h0 p0 a0 a1 a2 a3 a4 a5 a6 a7 a8 nu va qu sc lo wt x10 (1 : Int32) r_20 hq_21) [0, 1, 2, 3, 4, 5, 6, 7, 8, 9] rfl rfl rfl 0 rfl rfl hl.1 rfl (Nat.le_of_ble_eq_true rfl) ⟨Nat.le_of_ble_eq_true rfl, Nat.le_of_ble_eq_true rfl⟩ rfl dL_rows_374 (fun H locs h => ?_)
                refine lv_iadd hx hb dL_rows_377 ?_
                refine lv_aload_n hx hb dL_rows_378 rfl (lv_at hl 0 rfl) ?_
                refine lv_iconst (v := 1) hx hb dL_rows_379 (by decide) ?_
                obtain ⟨r_22, hq_23, hf⟩ := ob1_use hf
                refine r_callV0 C h (cw_L_rows_X4_count_9 C.hts) (rest := [.int ((r_16 * r_18) + r_20)]) (ci := 4) (N := 5) (Cn := RX4) (T := TX4) (c_X4_count l G cI cC cZ X d0 b0 sl a0 a1 a2 a3 a4 a5 a6 a7 a8 p0 p1 h0 h1 nu va qu sc lo wt ch pl pa po pf ps ho hs (1 : Int32) r_22 hq_23) [0, 1, 2, 3, 4, 5, 6, 7, 8, 9, 10, 11, 12] rfl rfl rfl 0 rfl rfl hl.1 rfl (Nat.le_of_ble_eq_true rfl) ⟨Nat.le_of_ble_eq_true rfl, Nat.le_of_ble_eq_true rfl⟩ rfl dL_rows_380 (fun H locs h => ?_)
                refine lv_icmp_ge (tgt := 390) hx hb dL_rows_383 (by decide) (fun hc => ?_) (fun hc => ?_)
                · replace hf := it_t hf hc
                  refine lv_iconst (v := 0) hx hb dL_rows_390 (by decide) ?_
                  refine lv_istore (lv' := [(5, .int 0), (0, .ref d0), (3, .int x3), (6, .int x6), (8, .int x8), (9, .int x9), (10, .int x10)]) hx hb dL_rows_391 hl (by decide) rfl (fun ls hl => ?_)
                  refine lv_aload_n hx hb dL_rows_393 rfl (lv_at hl 1 rfl) ?_
                  refine lv_iload hx hb dL_rows_394 (lv_at hl 6 rfl) ?_
                  refine lv_iconst (v := 3) hx hb dL_rows_396 (by decide) ?_
                  obtain ⟨r_24, hq_25, hf⟩ := ob1_use hf
                  refine r_callV0 C h (cw_L_rows_X4_ofMissing_22 C.hts) (rest := []) (ci := 4) (N := 5) (Cn := RX4) (T := TX4) (c_X4_ofMissing l G cI cC cZ X d0 b0 sl h0 p0 a0 a1 a2 a3 a4 a5 a6 a7 a8 nu va qu sc lo wt x10 (3 : Int32) r_24 hq_25) [0, 1, 2, 3, 4, 5, 6, 7, 8, 9] rfl rfl rfl 0 rfl rfl hl.1 rfl (Nat.le_of_ble_eq_true rfl) ⟨Nat.le_of_ble_eq_true rfl, Nat.le_of_ble_eq_true rfl⟩ rfl dL_rows_397 (fun H locs h => ?_)
                  refine lv_istore (lv' := [(9, .int r_24), (5, .int 0), (0, .ref d0), (3, .int x3), (6, .int x6), (8, .int x8), (10, .int x10)]) hx hb dL_rows_400 hl (by decide) rfl (fun ls hl => ?_)
                  obtain ⟨x10_26, ex10_26⟩ : ∃ y : Int32, y = x10 + 1 := ⟨_, rfl⟩
                  replace hf := nm_use hf ex10_26
                  refine lv_iinc (v := x10_26) (lv' := [(10, .int x10_26), (9, .int r_24), (5, .int 0), (0, .ref d0), (3, .int x3), (6, .int x6), (8, .int x8)]) hx hb dL_rows_402 hl (k := 6) rfl (by rw [ex10_26]; rfl) (by decide) rfl (fun ls hl => ?_)
                  refine lv_goto (tgt := 311) hx hb dL_rows_405 (by decide) ?_
                  exact ih x3 0 x6 x8 r_24 x10_26 _ _ _ h (lv_sub hl [3, 4, 2, 5, 6, 1, 0] rfl) hf
                · replace hf := it_f hf hc
                  refine lv_iconst (v := 1) hx hb dL_rows_386 (by decide) ?_
                  refine lv_goto (tgt := 391) hx hb dL_rows_387 (by decide) ?_
                  refine lv_istore (lv' := [(5, .int 1), (0, .ref d0), (3, .int x3), (6, .int x6), (8, .int x8), (9, .int x9), (10, .int x10)]) hx hb dL_rows_391 hl (by decide) rfl (fun ls hl => ?_)
                  refine lv_aload_n hx hb dL_rows_393 rfl (lv_at hl 1 rfl) ?_
                  refine lv_iload hx hb dL_rows_394 (lv_at hl 6 rfl) ?_
                  refine lv_iconst (v := 3) hx hb dL_rows_396 (by decide) ?_
                  obtain ⟨r_27, hq_28, hf⟩ := ob1_use hf
                  refine r_callV0 C h (cw_L_rows_X4_ofMissing_22 C.hts) (rest := []) (ci := 4) (N := 5) (Cn := RX4) (T := TX4) (c_X4_ofMissing l G cI cC cZ X d0 b0 sl h0 p0 a0 a1 a2 a3 a4 a5 a6 a7 a8 nu va qu sc lo wt x10 (3 : Int32) r_27 hq_28) [0, 1, 2, 3, 4, 5, 6, 7, 8, 9] rfl rfl rfl 0 rfl rfl hl.1 rfl (Nat.le_of_ble_eq_true rfl) ⟨Nat.le_of_ble_eq_true rfl, Nat.le_of_ble_eq_true rfl⟩ rfl dL_rows_397 (fun H locs h => ?_)
                  refine lv_istore (lv' := [(9, .int r_27), (5, .int 1), (0, .ref d0), (3, .int x3), (6, .int x6), (8, .int x8), (10, .int x10)]) hx hb dL_rows_400 hl (by decide) rfl (fun ls hl => ?_)
                  obtain ⟨x10_29, ex10_29⟩ : ∃ y : Int32, y = x10 + 1 := ⟨_, rfl⟩
                  replace hf := nm_use hf ex10_29
                  refine lv_iinc (v := x10_29) (lv' := [(10, .int x10_29), (9, .int r_27), (5, .int 1), (0, .ref d0), (3, .int x3), (6, .int x6), (8, .int x8)]) hx hb dL_rows_402 hl (k := 6) rfl (by rw [ex10_29]; rfl) (by decide) rfl (fun ls hl => ?_)
                  refine lv_goto (tgt := 311) hx hb dL_rows_405 (by decide) ?_
                  exact ih x3 1 x6 x8 r_27 x10_29 _ _ _ h (lv_sub hl [3, 4, 2, 5, 6, 1, 0] rfl) hf
  have cut_301 : ∀ (x3 : Int32) (x5 : Int32) (x6 : Int32) (x8 : Int32) (H : Heap) (locs : List Loc) (ls : Array Slot), Hx s G A (wLDc cI cC d0 b0 sl a0 a1 a2 a3 a4 a5 a6 a7 a8 p0 p1 h0 h1 nu va qu sc lo wt ch pl pa po pf ps ho hs) H locs → lv_has ls 11 [(0, .ref d0), (3, .int x3), (5, .int x5), (6, .int x6), (8, .int x8)] → fL_rows_301 nu qu sc lo pl hs x3 x5 x6 x8 = some (rv) → W p l e rm_L_rows s m args below meth c H locs 0 0 (MQ below (Qx G (some (.int rv)) (wLDc cI cC d0 b0 sl a0 a1 a2 a3 a4 a5 a6 a7 a8 p0 p1 h0 h1 nu va qu sc lo wt ch pl pa po pf ps ho hs) A) args s 0 0 A) (F0 m 301 ls []) := by
    intro x3 x5 x6 x8 H locs ls h hl hf
    unfold fL_rows_301 at hf
    refine lv_aload_n hx hb dL_rows_301 rfl (lv_at hl 0 rfl) ?_
    refine lv_iconst (v := 0) hx hb dL_rows_302 (by decide) ?_
    obtain ⟨r_1, hq_2, hf⟩ := ob1_use hf
    refine r_callV0 C h (cw_L_rows_X4_count_9 C.hts) (rest := []) (ci := 4) (N := 5) (Cn := RX4) (T := TX4) (c_X4_count l G cI cC cZ X d0 b0 sl a0 a1 a2 a3 a4 a5 a6 a7 a8 p0 p1 h0 h1 nu va qu sc lo wt ch pl pa po pf ps ho hs (0 : Int32) r_1 hq_2) [0, 1, 2, 3, 4, 5, 6, 7, 8, 9, 10, 11, 12] rfl rfl rfl 0 rfl rfl hl.1 rfl (Nat.le_of_ble_eq_true rfl) ⟨Nat.le_of_ble_eq_true rfl, Nat.le_of_ble_eq_true rfl⟩ rfl dL_rows_303 (fun H locs h => ?_)
    refine lv_istore (lv' := [(9, .int r_1), (0, .ref d0), (3, .int x3), (5, .int x5), (6, .int x6), (8, .int x8)]) hx hb dL_rows_306 hl (by decide) rfl (fun ls hl => ?_)
    refine lv_iconst (v := 0) hx hb dL_rows_308 (by decide) ?_
    refine lv_istore (lv' := [(10, .int 0), (9, .int r_1), (0, .ref d0), (3, .int x3), (5, .int x5), (6, .int x6), (8, .int x8)]) hx hb dL_rows_309 hl (by decide) rfl (fun ls hl => ?_)
    exact cut_311 KF x3 x5 x6 x8 r_1 0 _ _ _ h (lv_sub hl [2, 3, 4, 5, 6, 1, 0] rfl) hf
  have cut_279 : ∀ (x3 : Int32) (x5 : Int32) (x6 : Int32) (H : Heap) (locs : List Loc) (ls : Array Slot), Hx s G A (wLDc cI cC d0 b0 sl a0 a1 a2 a3 a4 a5 a6 a7 a8 p0 p1 h0 h1 nu va qu sc lo wt ch pl pa po pf ps ho hs) H locs → lv_has ls 11 [(0, .ref d0), (3, .int x3), (5, .int x5), (6, .int x6)] → fL_rows_279 nu qu sc lo pl hs x3 x5 x6 = some (rv) → W p l e rm_L_rows s m args below meth c H locs 0 0 (MQ below (Qx G (some (.int rv)) (wLDc cI cC d0 b0 sl a0 a1 a2 a3 a4 a5 a6 a7 a8 p0 p1 h0 h1 nu va qu sc lo wt ch pl pa po pf ps ho hs) A) args s 0 0 A) (F0 m 279 ls []) := by
    intro x3 x5 x6 H locs ls h hl hf
    unfold fL_rows_279 at hf
    refine lv_aload_n hx hb dL_rows_279 rfl (lv_at hl 0 rfl) ?_
    refine lv_iconst (v := 4) hx hb dL_rows_280 (by decide) ?_
    obtain ⟨r_1, hq_2, hf⟩ := ob1_use hf
    refine r_callV0 C h (cw_L_rows_X4_count_9 C.hts) (rest := []) (ci := 4) (N := 5) (Cn := RX4) (T := TX4) (c_X4_count l G cI cC cZ X d0 b0 sl a0 a1 a2 a3 a4 a5 a6 a7 a8 p0 p1 h0 h1 nu va qu sc lo wt ch pl pa po pf ps ho hs (4 : Int32) r_1 hq_2) [0, 1, 2, 3, 4, 5, 6, 7, 8, 9, 10, 11, 12] rfl rfl rfl 0 rfl rfl hl.1 rfl (Nat.le_of_ble_eq_true rfl) ⟨Nat.le_of_ble_eq_true rfl, Nat.le_of_ble_eq_true rfl⟩ rfl dL_rows_281 (fun H locs h => ?_)
    refine lv_bipush (v := 8) hx hb dL_rows_284 (by decide) ?_
    refine lv_icmp_ge (tgt := 297) hx hb dL_rows_286 (by decide) (fun hc => ?_) (fun hc => ?_)
    · replace hf := it_t hf hc
      refine lv_bipush (v := 8) hx hb dL_rows_297 (by decide) ?_
      refine lv_istore (lv' := [(8, .int 8), (0, .ref d0), (3, .int x3), (5, .int x5), (6, .int x6)]) hx hb dL_rows_299 hl (by decide) rfl (fun ls hl => ?_)
      exact cut_301 x3 x5 x6 8 _ _ _ h (lv_sub hl [1, 2, 3, 4, 0] rfl) hf
    · replace hf := it_f hf hc
      refine lv_aload_n hx hb dL_rows_289 rfl (lv_at hl 0 rfl) ?_
      refine lv_iconst (v := 4) hx hb dL_rows_290 (by decide) ?_
      obtain ⟨r_3, hq_4, hf⟩ := ob1_use hf
      refine r_callV0 C h (cw_L_rows_X4_count_9 C.hts) (rest := []) (ci := 4) (N := 5) (Cn := RX4) (T := TX4) (c_X4_count l G cI cC cZ X d0 b0 sl a0 a1 a2 a3 a4 a5 a6 a7 a8 p0 p1 h0 h1 nu va qu sc lo wt ch pl pa po pf ps ho hs (4 : Int32) r_3 hq_4) [0, 1, 2, 3, 4, 5, 6, 7, 8, 9, 10, 11, 12] rfl rfl rfl 0 rfl rfl hl.1 rfl (Nat.le_of_ble_eq_true rfl) ⟨Nat.le_of_ble_eq_true rfl, Nat.le_of_ble_eq_true rfl⟩ rfl dL_rows_291 (fun H locs h => ?_)
      refine lv_goto (tgt := 299) hx hb dL_rows_294 (by decide) ?_
      refine lv_istore (lv' := [(8, .int r_3), (0, .ref d0), (3, .int x3), (5, .int x5), (6, .int x6)]) hx hb dL_rows_299 hl (by decide) rfl (fun ls hl => ?_)
      exact cut_301 x3 x5 x6 r_3 _ _ _ h (lv_sub hl [1, 2, 3, 4, 0] rfl) hf
  have cut_136 : ∀ (n : Nat) (x1 : Int32) (x3 : Int32) (x5 : Int32) (x6 : Int32) (x7 : Int32) (x8 : Int32) (H : Heap) (locs : List Loc) (ls : Array Slot), Hx s G A (wLDc cI cC d0 b0 sl a0 a1 a2 a3 a4 a5 a6 a7 a8 p0 p1 h0 h1 nu va qu sc lo wt ch pl pa po pf ps ho hs) H locs → lv_has ls 11 [(0, .ref d0), (1, .int x1), (3, .int x3), (5, .int x5), (6, .int x6), (7, .int x7), (8, .int x8)] → fL_rows_136 n nu qu sc lo pl hs x1 x3 x5 x6 x7 x8 = some (rv) → W p l e rm_L_rows s m args below meth c H locs 0 0 (MQ below (Qx G (some (.int rv)) (wLDc cI cC d0 b0 sl a0 a1 a2 a3 a4 a5 a6 a7 a8 p0 p1 h0 h1 nu va qu sc lo wt ch pl pa po pf ps ho hs) A) args s 0 0 A) (F0 m 136 ls []) := by
    intro n
    induction n with
    | zero =>
      intro x1 x3 x5 x6 x7 x8 H locs ls h hl hf
      exact (nn_some _ hf).elim
    | succ n ih =>
      intro x1 x3 x5 x6 x7 x8 H locs ls h hl hf
      have hf : fL_rows_136_b (fL_rows_136 n) nu qu sc lo pl hs x1 x3 x5 x6 x7 x8 = some (rv) := hf
      unfold fL_rows_136_b at hf
      refine lv_iload hx hb dL_rows_136 (lv_at hl 6 rfl) ?_
      refine lv_iload_n hx hb dL_rows_138 rfl (lv_at hl 1 rfl) ?_
      refine lv_icmp_ge (tgt := 279) hx hb dL_rows_139 (by decide) (fun hc => ?_) (fun hc => ?_)
      · replace hf := it_t hf hc
        exact cut_279 x3 x5 x6 _ _ _ h (lv_sub hl [0, 2, 3, 4] rfl) hf
      · replace hf := it_f hf hc
        refine lv_iload hx hb dL_rows_142 (lv_at hl 3 rfl) ?_
        refine lv_if_eq (tgt := 279) hx hb dL_rows_144 (by decide) (fun hc => ?_) (fun hc => ?_)
        · replace hf := it_t hf hc
          exact cut_279 x3 x5 x6 _ _ _ h (lv_sub hl [0, 2, 3, 4] rfl) hf
        · replace hf := it_f hf hc
          refine lv_aload_n hx hb dL_rows_147 rfl (lv_at hl 0 rfl) ?_
          refine lv_iload hx hb dL_rows_148 (lv_at hl 6 rfl) ?_
          refine lv_iconst (v := 1) hx hb dL_rows_150 (by decide) ?_
          obtain ⟨r_1, hq_2, hf⟩ := ob1_use hf
          refine r_callV0 C h (cw_L_rows_X4_row_19 C.hts) (rest := []) (ci := 4) (N := 5) (Cn := RX4) (T := TX4) (c_X4_row l G cI cC cZ X d0 b0 sl h0 p0 a0 a1 a2 a3 a4 a5 a6 a7 a8 nu va qu sc lo wt x8 (1 : Int32) r_1 hq_2) [0, 1, 2, 3, 4, 5, 6, 7, 8, 9] rfl rfl rfl 0 rfl rfl hl.1 rfl (Nat.le_of_ble_eq_true rfl) ⟨Nat.le_of_ble_eq_true rfl, Nat.le_of_ble_eq_true rfl⟩ rfl dL_rows_151 (fun H locs h => ?_)
          refine lv_if_lt (tgt := 161) hx hb dL_rows_154 (by decide) (fun hc => ?_) (fun hc => ?_)
          · replace hf := it_t hf hc
            refine lv_iconst (v := 0) hx hb dL_rows_161 (by decide) ?_
            refine lv_istore (lv' := [(9, .int 0), (0, .ref d0), (1, .int x1), (3, .int x3), (5, .int x5), (6, .int x6), (7, .int x7), (8, .int x8)]) hx hb dL_rows_162 hl (by decide) rfl (fun ls hl => ?_)
            refine lv_aload_n hx hb dL_rows_164 rfl (lv_at hl 1 rfl) ?_
            refine lv_iload hx hb dL_rows_165 (lv_at hl 7 rfl) ?_
            refine lv_iconst (v := 0) hx hb dL_rows_167 (by decide) ?_
            obtain ⟨r_3, hq_4, hf⟩ := ob1_use hf
            refine r_callV0 C h (cw_L_rows_X4_row_19 C.hts) (rest := []) (ci := 4) (N := 5) (Cn := RX4) (T := TX4) (c_X4_row l G cI cC cZ X d0 b0 sl h0 p0 a0 a1 a2 a3 a4 a5 a6 a7 a8 nu va qu sc lo wt x8 (0 : Int32) r_3 hq_4) [0, 1, 2, 3, 4, 5, 6, 7, 8, 9] rfl rfl rfl 0 rfl rfl hl.1 rfl (Nat.le_of_ble_eq_true rfl) ⟨Nat.le_of_ble_eq_true rfl, Nat.le_of_ble_eq_true rfl⟩ rfl dL_rows_168 (fun H locs h => ?_)
            refine lv_bipush (v := (-6)) hx hb dL_rows_171 (by decide) ?_
            refine lv_icmp_ne (tgt := 180) hx hb dL_rows_173 (by decide) (fun hc => ?_) (fun hc => ?_)
            · replace hf := it_f hf hc
              refine lv_iconst (v := 0) hx hb dL_rows_180 (by decide) ?_
              refine lv_iload hx hb dL_rows_181 (lv_at hl 7 rfl) ?_
              refine lv_aload_n hx hb dL_rows_183 rfl (lv_at hl 1 rfl) ?_
              refine lv_iconst (v := 5) hx hb dL_rows_184 (by decide) ?_
              obtain ⟨r_5, hq_6, hf⟩ := ob1_use hf
              refine r_callV0 C h (cw_L_rows_X4_count_9 C.hts) (rest := [.int x8, .int 0]) (ci := 4) (N := 5) (Cn := RX4) (T := TX4) (c_X4_count l G cI cC cZ X d0 b0 sl a0 a1 a2 a3 a4 a5 a6 a7 a8 p0 p1 h0 h1 nu va qu sc lo wt ch pl pa po pf ps ho hs (5 : Int32) r_5 hq_6) [0, 1, 2, 3, 4, 5, 6, 7, 8, 9, 10, 11, 12] rfl rfl rfl 0 rfl rfl hl.1 rfl (Nat.le_of_ble_eq_true rfl) ⟨Nat.le_of_ble_eq_true rfl, Nat.le_of_ble_eq_true rfl⟩ rfl dL_rows_185 (fun H locs h => ?_)
              refine lv_icmp_lt (tgt := 195) hx hb dL_rows_188 (by decide) (fun hc => ?_) (fun hc => ?_)
              · replace hf := it_t hf hc
                refine lv_iconst (v := 0) hx hb dL_rows_195 (by decide) ?_
                refine lv_icmp_ne (tgt := 238) hx hb dL_rows_196 (by decide) (fun hc => absurd hc (by decide)) (fun _ => ?_)
                refine lv_iload hx hb dL_rows_199 (lv_at hl 0 rfl) ?_
                refine lv_aload_n hx hb dL_rows_201 rfl (lv_at hl 1 rfl) ?_
                refine lv_iload hx hb dL_rows_202 (lv_at hl 7 rfl) ?_
                refine lv_iconst (v := 2) hx hb dL_rows_204 (by decide) ?_
                obtain ⟨r_7, hq_8, hf⟩ := ob1_use hf
                refine r_callV0 C h (cw_L_rows_X4_row_19 C.hts) (rest := [.int 0]) (ci := 4) (N := 5) (Cn := RX4) (T := TX4) (c_X4_row l G cI cC cZ X d0 b0 sl h0 p0 a0 a1 a2 a3 a4 a5 a6 a7 a8 nu va qu sc lo wt x8 (2 : Int32) r_7 hq_8) [0, 1, 2, 3, 4, 5, 6, 7, 8, 9] rfl rfl rfl 0 rfl rfl hl.1 rfl (Nat.le_of_ble_eq_true rfl) ⟨Nat.le_of_ble_eq_true rfl, Nat.le_of_ble_eq_true rfl⟩ rfl dL_rows_205 (fun H locs h => ?_)
                refine lv_if_lt (tgt := 215) hx hb dL_rows_208 (by decide) (fun hc => ?_) (fun hc => ?_)
                · replace hf := it_t hf hc
                  refine lv_iconst (v := 0) hx hb dL_rows_215 (by decide) ?_
                  refine lv_icmp_ne (tgt := 238) hx hb dL_rows_216 (by decide) (fun hc => absurd hc (by decide)) (fun _ => ?_)
                  refine lv_iload hx hb dL_rows_219 (lv_at hl 7 rfl) ?_
                  refine lv_aload_n hx hb dL_rows_221 rfl (lv_at hl 1 rfl) ?_
                  refine lv_iconst (v := 5) hx hb dL_rows_222 (by decide) ?_
                  obtain ⟨r_9, hq_10, hf⟩ := ob1_use hf
                  refine r_callV0 C h (cw_L_rows_X4_count_9 C.hts) (rest := [.int x8]) (ci := 4) (N := 5) (Cn := RX4) (T := TX4) (c_X4_count l G cI cC cZ X d0 b0 sl a0 a1 a2 a3 a4 a5 a6 a7 a8 p0 p1 h0 h1 nu va qu sc lo wt ch pl pa po pf ps ho hs (5 : Int32) r_9 hq_10) [0, 1, 2, 3, 4, 5, 6, 7, 8, 9, 10, 11, 12] rfl rfl rfl 0 rfl rfl hl.1 rfl (Nat.le_of_ble_eq_true rfl) ⟨Nat.le_of_ble_eq_true rfl, Nat.le_of_ble_eq_true rfl⟩ rfl dL_rows_223 (fun H locs h => ?_)
                  refine lv_icmp_lt (tgt := 234) hx hb dL_rows_226 (by decide) (fun hc => ?_) (fun hc => ?_)
                  · replace hf := it_t hf hc
                    refine lv_iconst (v := 1) hx hb dL_rows_234 (by decide) ?_
                    refine lv_goto (tgt := 239) hx hb dL_rows_235 (by decide) ?_
                    refine lv_istore (lv' := [(5, .int 1), (9, .int 0), (0, .ref d0), (1, .int x1), (3, .int x3), (6, .int x6), (7, .int x7), (8, .int x8)]) hx hb dL_rows_239 hl (by decide) rfl (fun ls hl => ?_)
                    refine lv_iload hx hb dL_rows_241 (lv_at hl 6 rfl) ?_
                    refine lv_if_eq (tgt := 255) hx hb dL_rows_243 (by decide) (fun hc => ?_) (fun hc => ?_)
                    · replace hf := it_t hf hc
                      refine lv_iconst (v := 0) hx hb dL_rows_255 (by decide) ?_
                      refine lv_istore (lv' := [(7, .int 0), (5, .int 1), (9, .int 0), (0, .ref d0), (1, .int x1), (3, .int x3), (6, .int x6), (8, .int x8)]) hx hb dL_rows_256 hl (by decide) rfl (fun ls hl => ?_)
                      refine lv_iload hx hb dL_rows_258 (lv_at hl 6 rfl) ?_
                      refine lv_iload hx hb dL_rows_260 (lv_at hl 0 rfl) ?_
                      refine lv_if_eq (tgt := 269) hx hb dL_rows_262 (by decide) (fun _ => ?_) (fun hc => absurd hc (by decide))
                      refine lv_iconst (v := 0) hx hb dL_rows_269 (by decide) ?_
                      refine lv_iadd hx hb dL_rows_270 ?_
                      refine lv_topi (fun x6_11 ex6_11 => ?_)
                      replace hf := nm_use hf ex6_11
                      refine lv_istore (lv' := [(6, .int x6_11), (7, .int 0), (5, .int 1), (9, .int 0), (0, .ref d0), (1, .int x1), (3, .int x3), (8, .int x8)]) hx hb dL_rows_271 hl (by decide) rfl (fun ls hl => ?_)
                      obtain ⟨x8_12, ex8_12⟩ : ∃ y : Int32, y = x8 + 1 := ⟨_, rfl⟩
                      replace hf := nm_use hf ex8_12
                      refine lv_iinc (v := x8_12) (lv' := [(8, .int x8_12), (6, .int x6_11), (7, .int 0), (5, .int 1), (9, .int 0), (0, .ref d0), (1, .int x1), (3, .int x3)]) hx hb dL_rows_273 hl (k := 7) rfl (by rw [ex8_12]; rfl) (by decide) rfl (fun ls hl => ?_)
                      refine lv_goto (tgt := 136) hx hb dL_rows_276 (by decide) ?_
                      exact ih x1 x3 1 x6_11 0 x8_12 _ _ _ h (lv_sub hl [5, 6, 7, 3, 1, 2, 0] rfl) hf
                    · replace hf := it_f hf hc
                      refine lv_iload hx hb dL_rows_246 (lv_at hl 1 rfl) ?_
                      refine lv_if_eq (tgt := 255) hx hb dL_rows_248 (by decide) (fun _ => ?_) (fun hc => absurd hc (by decide))
                      refine lv_iconst (v := 0) hx hb dL_rows_255 (by decide) ?_
                      refine lv_istore (lv' := [(7, .int 0), (5, .int 1), (9, .int 0), (0, .ref d0), (1, .int x1), (3, .int x3), (6, .int x6), (8, .int x8)]) hx hb dL_rows_256 hl (by decide) rfl (fun ls hl => ?_)
                      refine lv_iload hx hb dL_rows_258 (lv_at hl 6 rfl) ?_
                      refine lv_iload hx hb dL_rows_260 (lv_at hl 0 rfl) ?_
                      refine lv_if_eq (tgt := 269) hx hb dL_rows_262 (by decide) (fun _ => ?_) (fun hc => absurd hc (by decide))
                      refine lv_iconst (v := 0) hx hb dL_rows_269 (by decide) ?_
                      refine lv_iadd hx hb dL_rows_270 ?_
                      refine lv_topi (fun x6_13 ex6_13 => ?_)
                      replace hf := nm_use hf ex6_13
                      refine lv_istore (lv' := [(6, .int x6_13), (7, .int 0), (5, .int 1), (9, .int 0), (0, .ref d0), (1, .int x1), (3, .int x3), (8, .int x8)]) hx hb dL_rows_271 hl (by decide) rfl (fun ls hl => ?_)
                      obtain ⟨x8_14, ex8_14⟩ : ∃ y : Int32, y = x8 + 1 := ⟨_, rfl⟩
                      replace hf := nm_use hf ex8_14
                      refine lv_iinc (v := x8_14) (lv' := [(8, .int x8_14), (6, .int x6_13), (7, .int 0), (5, .int 1), (9, .int 0), (0, .ref d0), (1, .int x1), (3, .int x3)]) hx hb dL_rows_273 hl (k := 7) rfl (by rw [ex8_14]; rfl) (by decide) rfl (fun ls hl => ?_)
                      refine lv_goto (tgt := 136) hx hb dL_rows_276 (by decide) ?_
                      exact ih x1 x3 1 x6_13 0 x8_14 _ _ _ h (lv_sub hl [5, 6, 7, 3, 1, 2, 0] rfl) hf
                  · replace hf := it_f hf hc
                    refine lv_iload hx hb dL_rows_229 (lv_at hl 0 rfl) ?_
                    refine lv_if_ne (tgt := 238) hx hb dL_rows_231 (by decide) (fun hc => absurd hc (by decide)) (fun _ => ?_)
                    refine lv_iconst (v := 1) hx hb dL_rows_234 (by decide) ?_
                    refine lv_goto (tgt := 239) hx hb dL_rows_235 (by decide) ?_
                    refine lv_istore (lv' := [(5, .int 1), (9, .int 0), (0, .ref d0), (1, .int x1), (3, .int x3), (6, .int x6), (7, .int x7), (8, .int x8)]) hx hb dL_rows_239 hl (by decide) rfl (fun ls hl => ?_)
                    refine lv_iload hx hb dL_rows_241 (lv_at hl 6 rfl) ?_
                    refine lv_if_eq (tgt := 255) hx hb dL_rows_243 (by decide) (fun hc => ?_) (fun hc => ?_)
                    · replace hf := it_t hf hc
                      refine lv_iconst (v := 0) hx hb dL_rows_255 (by decide) ?_
                      refine lv_istore (lv' := [(7, .int 0), (5, .int 1), (9, .int 0), (0, .ref d0), (1, .int x1), (3, .int x3), (6, .int x6), (8, .int x8)]) hx hb dL_rows_256 hl (by decide) rfl (fun ls hl => ?_)
                      refine lv_iload hx hb dL_rows_258 (lv_at hl 6 rfl) ?_
                      refine lv_iload hx hb dL_rows_260 (lv_at hl 0 rfl) ?_
                      refine lv_if_eq (tgt := 269) hx hb dL_rows_262 (by decide) (fun _ => ?_) (fun hc => absurd hc (by decide))
                      refine lv_iconst (v := 0) hx hb dL_rows_269 (by decide) ?_
                      refine lv_iadd hx hb dL_rows_270 ?_
                      refine lv_topi (fun x6_15 ex6_15 => ?_)
                      replace hf := nm_use hf ex6_15
                      refine lv_istore (lv' := [(6, .int x6_15), (7, .int 0), (5, .int 1), (9, .int 0), (0, .ref d0), (1, .int x1), (3, .int x3), (8, .int x8)]) hx hb dL_rows_271 hl (by decide) rfl (fun ls hl => ?_)
                      obtain ⟨x8_16, ex8_16⟩ : ∃ y : Int32, y = x8 + 1 := ⟨_, rfl⟩
                      replace hf := nm_use hf ex8_16
                      refine lv_iinc (v := x8_16) (lv' := [(8, .int x8_16), (6, .int x6_15), (7, .int 0), (5, .int 1), (9, .int 0), (0, .ref d0), (1, .int x1), (3, .int x3)]) hx hb dL_rows_273 hl (k := 7) rfl (by rw [ex8_16]; rfl) (by decide) rfl (fun ls hl => ?_)
                      refine lv_goto (tgt := 136) hx hb dL_rows_276 (by decide) ?_
                      exact ih x1 x3 1 x6_15 0 x8_16 _ _ _ h (lv_sub hl [5, 6, 7, 3, 1, 2, 0] rfl) hf
                    · replace hf := it_f hf hc
                      refine lv_iload hx hb dL_rows_246 (lv_at hl 1 rfl) ?_
                      refine lv_if_eq (tgt := 255) hx hb dL_rows_248 (by decide) (fun _ => ?_) (fun hc => absurd hc (by decide))
                      refine lv_iconst (v := 0) hx hb dL_rows_255 (by decide) ?_
                      refine lv_istore (lv' := [(7, .int 0), (5, .int 1), (9, .int 0), (0, .ref d0), (1, .int x1), (3, .int x3), (6, .int x6), (8, .int x8)]) hx hb dL_rows_256 hl (by decide) rfl (fun ls hl => ?_)
                      refine lv_iload hx hb dL_rows_258 (lv_at hl 6 rfl) ?_
                      refine lv_iload hx hb dL_rows_260 (lv_at hl 0 rfl) ?_
                      refine lv_if_eq (tgt := 269) hx hb dL_rows_262 (by decide) (fun _ => ?_) (fun hc => absurd hc (by decide))
                      refine lv_iconst (v := 0) hx hb dL_rows_269 (by decide) ?_
                      refine lv_iadd hx hb dL_rows_270 ?_
                      refine lv_topi (fun x6_17 ex6_17 => ?_)
                      replace hf := nm_use hf ex6_17
                      refine lv_istore (lv' := [(6, .int x6_17), (7, .int 0), (5, .int 1), (9, .int 0), (0, .ref d0), (1, .int x1), (3, .int x3), (8, .int x8)]) hx hb dL_rows_271 hl (by decide) rfl (fun ls hl => ?_)
                      obtain ⟨x8_18, ex8_18⟩ : ∃ y : Int32, y = x8 + 1 := ⟨_, rfl⟩
                      replace hf := nm_use hf ex8_18
                      refine lv_iinc (v := x8_18) (lv' := [(8, .int x8_18), (6, .int x6_17), (7, .int 0), (5, .int 1), (9, .int 0), (0, .ref d0), (1, .int x1), (3, .int x3)]) hx hb dL_rows_273 hl (k := 7) rfl (by rw [ex8_18]; rfl) (by decide) rfl (fun ls hl => ?_)
                      refine lv_goto (tgt := 136) hx hb dL_rows_276 (by decide) ?_
                      exact ih x1 x3 1 x6_17 0 x8_18 _ _ _ h (lv_sub hl [5, 6, 7, 3, 1, 2, 0] rfl) hf
                · replace hf := it_f hf hc
                  refine lv_iconst (v := 1) hx hb dL_rows_211 (by decide) ?_
                  refine lv_goto (tgt := 216) hx hb dL_rows_212 (by decide) ?_
                  refine lv_icmp_ne (tgt := 238) hx hb dL_rows_216 (by decide) (fun _ => ?_) (fun hc => absurd hc (by decide))
                  refine lv_iconst (v := 0) hx hb dL_rows_238 (by decide) ?_
                  refine lv_istore (lv' := [(5, .int 0), (9, .int 0), (0, .ref d0), (1, .int x1), (3, .int x3), (6, .int x6), (7, .int x7), (8, .int x8)]) hx hb dL_rows_239 hl (by decide) rfl (fun ls hl => ?_)
                  refine lv_iload hx hb dL_rows_241 (lv_at hl 6 rfl) ?_
                  refine lv_if_eq (tgt := 255) hx hb dL_rows_243 (by decide) (fun hc => ?_) (fun hc => ?_)
                  · replace hf := it_t hf hc
                    refine lv_iconst (v := 0) hx hb dL_rows_255 (by decide) ?_
                    refine lv_istore (lv' := [(7, .int 0), (5, .int 0), (9, .int 0), (0, .ref d0), (1, .int x1), (3, .int x3), (6, .int x6), (8, .int x8)]) hx hb dL_rows_256 hl (by decide) rfl (fun ls hl => ?_)
                    refine lv_iload hx hb dL_rows_258 (lv_at hl 6 rfl) ?_
                    refine lv_iload hx hb dL_rows_260 (lv_at hl 0 rfl) ?_
                    refine lv_if_eq (tgt := 269) hx hb dL_rows_262 (by decide) (fun _ => ?_) (fun hc => absurd hc (by decide))
                    refine lv_iconst (v := 0) hx hb dL_rows_269 (by decide) ?_
                    refine lv_iadd hx hb dL_rows_270 ?_
                    refine lv_topi (fun x6_19 ex6_19 => ?_)
                    replace hf := nm_use hf ex6_19
                    refine lv_istore (lv' := [(6, .int x6_19), (7, .int 0), (5, .int 0), (9, .int 0), (0, .ref d0), (1, .int x1), (3, .int x3), (8, .int x8)]) hx hb dL_rows_271 hl (by decide) rfl (fun ls hl => ?_)
                    obtain ⟨x8_20, ex8_20⟩ : ∃ y : Int32, y = x8 + 1 := ⟨_, rfl⟩
                    replace hf := nm_use hf ex8_20
                    refine lv_iinc (v := x8_20) (lv' := [(8, .int x8_20), (6, .int x6_19), (7, .int 0), (5, .int 0), (9, .int 0), (0, .ref d0), (1, .int x1), (3, .int x3)]) hx hb dL_rows_273 hl (k := 7) rfl (by rw [ex8_20]; rfl) (by decide) rfl (fun ls hl => ?_)
                    refine lv_goto (tgt := 136) hx hb dL_rows_276 (by decide) ?_
                    exact ih x1 x3 0 x6_19 0 x8_20 _ _ _ h (lv_sub hl [5, 6, 7, 3, 1, 2, 0] rfl) hf
                  · replace hf := it_f hf hc
                    refine lv_iload hx hb dL_rows_246 (lv_at hl 1 rfl) ?_
                    refine lv_if_eq (tgt := 255) hx hb dL_rows_248 (by decide) (fun _ => ?_) (fun hc => absurd hc (by decide))
                    refine lv_iconst (v := 0) hx hb dL_rows_255 (by decide) ?_
                    refine lv_istore (lv' := [(7, .int 0), (5, .int 0), (9, .int 0), (0, .ref d0), (1, .int x1), (3, .int x3), (6, .int x6), (8, .int x8)]) hx hb dL_rows_256 hl (by decide) rfl (fun ls hl => ?_)
                    refine lv_iload hx hb dL_rows_258 (lv_at hl 6 rfl) ?_
                    refine lv_iload hx hb dL_rows_260 (lv_at hl 0 rfl) ?_
                    refine lv_if_eq (tgt := 269) hx hb dL_rows_262 (by decide) (fun _ => ?_) (fun hc => absurd hc (by decide))
                    refine lv_iconst (v := 0) hx hb dL_rows_269 (by decide) ?_
                    refine lv_iadd hx hb dL_rows_270 ?_
                    refine lv_topi (fun x6_21 ex6_21 => ?_)
                    replace hf := nm_use hf ex6_21
                    refine lv_istore (lv' := [(6, .int x6_21), (7, .int 0), (5, .int 0), (9, .int 0), (0, .ref d0), (1, .int x1), (3, .int x3), (8, .int x8)]) hx hb dL_rows_271 hl (by decide) rfl (fun ls hl => ?_)
                    obtain ⟨x8_22, ex8_22⟩ : ∃ y : Int32, y = x8 + 1 := ⟨_, rfl⟩
                    replace hf := nm_use hf ex8_22
                    refine lv_iinc (v := x8_22) (lv' := [(8, .int x8_22), (6, .int x6_21), (7, .int 0), (5, .int 0), (9, .int 0), (0, .ref d0), (1, .int x1), (3, .int x3)]) hx hb dL_rows_273 hl (k := 7) rfl (by rw [ex8_22]; rfl) (by decide) rfl (fun ls hl => ?_)
                    refine lv_goto (tgt := 136) hx hb dL_rows_276 (by decide) ?_
                    exact ih x1 x3 0 x6_21 0 x8_22 _ _ _ h (lv_sub hl [5, 6, 7, 3, 1, 2, 0] rfl) hf
              · replace hf := it_f hf hc
                refine lv_iconst (v := 1) hx hb dL_rows_191 (by decide) ?_
                refine lv_goto (tgt := 196) hx hb dL_rows_192 (by decide) ?_
                refine lv_icmp_ne (tgt := 238) hx hb dL_rows_196 (by decide) (fun _ => ?_) (fun hc => absurd hc (by decide))
                refine lv_iconst (v := 0) hx hb dL_rows_238 (by decide) ?_
                refine lv_istore (lv' := [(5, .int 0), (9, .int 0), (0, .ref d0), (1, .int x1), (3, .int x3), (6, .int x6), (7, .int x7), (8, .int x8)]) hx hb dL_rows_239 hl (by decide) rfl (fun ls hl => ?_)
                refine lv_iload hx hb dL_rows_241 (lv_at hl 6 rfl) ?_
                refine lv_if_eq (tgt := 255) hx hb dL_rows_243 (by decide) (fun hc => ?_) (fun hc => ?_)
                · replace hf := it_t hf hc
                  refine lv_iconst (v := 0) hx hb dL_rows_255 (by decide) ?_
                  refine lv_istore (lv' := [(7, .int 0), (5, .int 0), (9, .int 0), (0, .ref d0), (1, .int x1), (3, .int x3), (6, .int x6), (8, .int x8)]) hx hb dL_rows_256 hl (by decide) rfl (fun ls hl => ?_)
                  refine lv_iload hx hb dL_rows_258 (lv_at hl 6 rfl) ?_
                  refine lv_iload hx hb dL_rows_260 (lv_at hl 0 rfl) ?_
                  refine lv_if_eq (tgt := 269) hx hb dL_rows_262 (by decide) (fun _ => ?_) (fun hc => absurd hc (by decide))
                  refine lv_iconst (v := 0) hx hb dL_rows_269 (by decide) ?_
                  refine lv_iadd hx hb dL_rows_270 ?_
                  refine lv_topi (fun x6_23 ex6_23 => ?_)
                  replace hf := nm_use hf ex6_23
                  refine lv_istore (lv' := [(6, .int x6_23), (7, .int 0), (5, .int 0), (9, .int 0), (0, .ref d0), (1, .int x1), (3, .int x3), (8, .int x8)]) hx hb dL_rows_271 hl (by decide) rfl (fun ls hl => ?_)
                  obtain ⟨x8_24, ex8_24⟩ : ∃ y : Int32, y = x8 + 1 := ⟨_, rfl⟩
                  replace hf := nm_use hf ex8_24
                  refine lv_iinc (v := x8_24) (lv' := [(8, .int x8_24), (6, .int x6_23), (7, .int 0), (5, .int 0), (9, .int 0), (0, .ref d0), (1, .int x1), (3, .int x3)]) hx hb dL_rows_273 hl (k := 7) rfl (by rw [ex8_24]; rfl) (by decide) rfl (fun ls hl => ?_)
                  refine lv_goto (tgt := 136) hx hb dL_rows_276 (by decide) ?_
                  exact ih x1 x3 0 x6_23 0 x8_24 _ _ _ h (lv_sub hl [5, 6, 7, 3, 1, 2, 0] rfl) hf
                · replace hf := it_f hf hc
                  refine lv_iload hx hb dL_rows_246 (lv_at hl 1 rfl) ?_
                  refine lv_if_eq (tgt := 255) hx hb dL_rows_248 (by decide) (fun _ => ?_) (fun hc => absurd hc (by decide))
                  refine lv_iconst (v := 0) hx hb dL_rows_255 (by decide) ?_
                  refine lv_istore (lv' := [(7, .int 0), (5, .int 0), (9, .int 0), (0, .ref d0), (1, .int x1), (3, .int x3), (6, .int x6), (8, .int x8)]) hx hb dL_rows_256 hl (by decide) rfl (fun ls hl => ?_)
                  refine lv_iload hx hb dL_rows_258 (lv_at hl 6 rfl) ?_
                  refine lv_iload hx hb dL_rows_260 (lv_at hl 0 rfl) ?_
                  refine lv_if_eq (tgt := 269) hx hb dL_rows_262 (by decide) (fun _ => ?_) (fun hc => absurd hc (by decide))
                  refine lv_iconst (v := 0) hx hb dL_rows_269 (by decide) ?_
                  refine lv_iadd hx hb dL_rows_270 ?_
                  refine lv_topi (fun x6_25 ex6_25 => ?_)
                  replace hf := nm_use hf ex6_25
                  refine lv_istore (lv' := [(6, .int x6_25), (7, .int 0), (5, .int 0), (9, .int 0), (0, .ref d0), (1, .int x1), (3, .int x3), (8, .int x8)]) hx hb dL_rows_271 hl (by decide) rfl (fun ls hl => ?_)
                  obtain ⟨x8_26, ex8_26⟩ : ∃ y : Int32, y = x8 + 1 := ⟨_, rfl⟩
                  replace hf := nm_use hf ex8_26
                  refine lv_iinc (v := x8_26) (lv' := [(8, .int x8_26), (6, .int x6_25), (7, .int 0), (5, .int 0), (9, .int 0), (0, .ref d0), (1, .int x1), (3, .int x3)]) hx hb dL_rows_273 hl (k := 7) rfl (by rw [ex8_26]; rfl) (by decide) rfl (fun ls hl => ?_)
                  refine lv_goto (tgt := 136) hx hb dL_rows_276 (by decide) ?_
                  exact ih x1 x3 0 x6_25 0 x8_26 _ _ _ h (lv_sub hl [5, 6, 7, 3, 1, 2, 0] rfl) hf
            · replace hf := it_t hf hc
              refine lv_iconst (v := 1) hx hb dL_rows_176 (by decide) ?_
              refine lv_goto (tgt := 181) hx hb dL_rows_177 (by decide) ?_
              refine lv_iload hx hb dL_rows_181 (lv_at hl 7 rfl) ?_
              refine lv_aload_n hx hb dL_rows_183 rfl (lv_at hl 1 rfl) ?_
              refine lv_iconst (v := 5) hx hb dL_rows_184 (by decide) ?_
              obtain ⟨r_27, hq_28, hf⟩ := ob1_use hf
              refine r_callV0 C h (cw_L_rows_X4_count_9 C.hts) (rest := [.int x8, .int 1]) (ci := 4) (N := 5) (Cn := RX4) (T := TX4) (c_X4_count l G cI cC cZ X d0 b0 sl a0 a1 a2 a3 a4 a5 a6 a7 a8 p0 p1 h0 h1 nu va qu sc lo wt ch pl pa po pf ps ho hs (5 : Int32) r_27 hq_28) [0, 1, 2, 3, 4, 5, 6, 7, 8, 9, 10, 11, 12] rfl rfl rfl 0 rfl rfl hl.1 rfl (Nat.le_of_ble_eq_true rfl) ⟨Nat.le_of_ble_eq_true rfl, Nat.le_of_ble_eq_true rfl⟩ rfl dL_rows_185 (fun H locs h => ?_)
              refine lv_icmp_lt (tgt := 195) hx hb dL_rows_188 (by decide) (fun hc => ?_) (fun hc => ?_)
              · replace hf := it_t hf hc
                refine lv_iconst (v := 0) hx hb dL_rows_195 (by decide) ?_
                refine lv_icmp_ne (tgt := 238) hx hb dL_rows_196 (by decide) (fun _ => ?_) (fun hc => absurd hc (by decide))
                refine lv_iconst (v := 0) hx hb dL_rows_238 (by decide) ?_
                refine lv_istore (lv' := [(5, .int 0), (9, .int 0), (0, .ref d0), (1, .int x1), (3, .int x3), (6, .int x6), (7, .int x7), (8, .int x8)]) hx hb dL_rows_239 hl (by decide) rfl (fun ls hl => ?_)
                refine lv_iload hx hb dL_rows_241 (lv_at hl 6 rfl) ?_
                refine lv_if_eq (tgt := 255) hx hb dL_rows_243 (by decide) (fun hc => ?_) (fun hc => ?_)
                · replace hf := it_t hf hc
                  refine lv_iconst (v := 0) hx hb dL_rows_255 (by decide) ?_
                  refine lv_istore (lv' := [(7, .int 0), (5, .int 0), (9, .int 0), (0, .ref d0), (1, .int x1), (3, .int x3), (6, .int x6), (8, .int x8)]) hx hb dL_rows_256 hl (by decide) rfl (fun ls hl => ?_)
                  refine lv_iload hx hb dL_rows_258 (lv_at hl 6 rfl) ?_
                  refine lv_iload hx hb dL_rows_260 (lv_at hl 0 rfl) ?_
                  refine lv_if_eq (tgt := 269) hx hb dL_rows_262 (by decide) (fun _ => ?_) (fun hc => absurd hc (by decide))
                  refine lv_iconst (v := 0) hx hb dL_rows_269 (by decide) ?_
                  refine lv_iadd hx hb dL_rows_270 ?_
                  refine lv_topi (fun x6_29 ex6_29 => ?_)
                  replace hf := nm_use hf ex6_29
                  refine lv_istore (lv' := [(6, .int x6_29), (7, .int 0), (5, .int 0), (9, .int 0), (0, .ref d0), (1, .int x1), (3, .int x3), (8, .int x8)]) hx hb dL_rows_271 hl (by decide) rfl (fun ls hl => ?_)
                  obtain ⟨x8_30, ex8_30⟩ : ∃ y : Int32, y = x8 + 1 := ⟨_, rfl⟩
                  replace hf := nm_use hf ex8_30
                  refine lv_iinc (v := x8_30) (lv' := [(8, .int x8_30), (6, .int x6_29), (7, .int 0), (5, .int 0), (9, .int 0), (0, .ref d0), (1, .int x1), (3, .int x3)]) hx hb dL_rows_273 hl (k := 7) rfl (by rw [ex8_30]; rfl) (by decide) rfl (fun ls hl => ?_)
                  refine lv_goto (tgt := 136) hx hb dL_rows_276 (by decide) ?_
                  exact ih x1 x3 0 x6_29 0 x8_30 _ _ _ h (lv_sub hl [5, 6, 7, 3, 1, 2, 0] rfl) hf
                · replace hf := it_f hf hc
                  refine lv_iload hx hb dL_rows_246 (lv_at hl 1 rfl) ?_
                  refine lv_if_eq (tgt := 255) hx hb dL_rows_248 (by decide) (fun _ => ?_) (fun hc => absurd hc (by decide))
                  refine lv_iconst (v := 0) hx hb dL_rows_255 (by decide) ?_
                  refine lv_istore (lv' := [(7, .int 0), (5, .int 0), (9, .int 0), (0, .ref d0), (1, .int x1), (3, .int x3), (6, .int x6), (8, .int x8)]) hx hb dL_rows_256 hl (by decide) rfl (fun ls hl => ?_)
                  refine lv_iload hx hb dL_rows_258 (lv_at hl 6 rfl) ?_
                  refine lv_iload hx hb dL_rows_260 (lv_at hl 0 rfl) ?_
                  refine lv_if_eq (tgt := 269) hx hb dL_rows_262 (by decide) (fun _ => ?_) (fun hc => absurd hc (by decide))
                  refine lv_iconst (v := 0) hx hb dL_rows_269 (by decide) ?_
                  refine lv_iadd hx hb dL_rows_270 ?_
                  refine lv_topi (fun x6_31 ex6_31 => ?_)
                  replace hf := nm_use hf ex6_31
                  refine lv_istore (lv' := [(6, .int x6_31), (7, .int 0), (5, .int 0), (9, .int 0), (0, .ref d0), (1, .int x1), (3, .int x3), (8, .int x8)]) hx hb dL_rows_271 hl (by decide) rfl (fun ls hl => ?_)
                  obtain ⟨x8_32, ex8_32⟩ : ∃ y : Int32, y = x8 + 1 := ⟨_, rfl⟩
                  replace hf := nm_use hf ex8_32
                  refine lv_iinc (v := x8_32) (lv' := [(8, .int x8_32), (6, .int x6_31), (7, .int 0), (5, .int 0), (9, .int 0), (0, .ref d0), (1, .int x1), (3, .int x3)]) hx hb dL_rows_273 hl (k := 7) rfl (by rw [ex8_32]; rfl) (by decide) rfl (fun ls hl => ?_)
                  refine lv_goto (tgt := 136) hx hb dL_rows_276 (by decide) ?_
                  exact ih x1 x3 0 x6_31 0 x8_32 _ _ _ h (lv_sub hl [5, 6, 7, 3, 1, 2, 0] rfl) hf
              · replace hf := it_f hf hc
                refine lv_iconst (v := 1) hx hb dL_rows_191 (by decide) ?_
                refine lv_goto (tgt := 196) hx hb dL_rows_192 (by decide) ?_
                refine lv_icmp_ne (tgt := 238) hx hb dL_rows_196 (by decide) (fun hc => absurd hc (by decide)) (fun _ => ?_)
                refine lv_iload hx hb dL_rows_199 (lv_at hl 0 rfl) ?_
                refine lv_aload_n hx hb dL_rows_201 rfl (lv_at hl 1 rfl) ?_
                refine lv_iload hx hb dL_rows_202 (lv_at hl 7 rfl) ?_
                refine lv_iconst (v := 2) hx hb dL_rows_204 (by decide) ?_
                obtain ⟨r_33, hq_34, hf⟩ := ob1_use hf
                refine r_callV0 C h (cw_L_rows_X4_row_19 C.hts) (rest := [.int 0]) (ci := 4) (N := 5) (Cn := RX4) (T := TX4) (c_X4_row l G cI cC cZ X d0 b0 sl h0 p0 a0 a1 a2 a3 a4 a5 a6 a7 a8 nu va qu sc lo wt x8 (2 : Int32) r_33 hq_34) [0, 1, 2, 3, 4, 5, 6, 7, 8, 9] rfl rfl rfl 0 rfl rfl hl.1 rfl (Nat.le_of_ble_eq_true rfl) ⟨Nat.le_of_ble_eq_true rfl, Nat.le_of_ble_eq_true rfl⟩ rfl dL_rows_205 (fun H locs h => ?_)
                refine lv_if_lt (tgt := 215) hx hb dL_rows_208 (by decide) (fun hc => ?_) (fun hc => ?_)
                · replace hf := it_t hf hc
                  refine lv_iconst (v := 0) hx hb dL_rows_215 (by decide) ?_
                  refine lv_icmp_ne (tgt := 238) hx hb dL_rows_216 (by decide) (fun hc => absurd hc (by decide)) (fun _ => ?_)
                  refine lv_iload hx hb dL_rows_219 (lv_at hl 7 rfl) ?_
                  refine lv_aload_n hx hb dL_rows_221 rfl (lv_at hl 1 rfl) ?_
                  refine lv_iconst (v := 5) hx hb dL_rows_222 (by decide) ?_
                  obtain ⟨r_35, hq_36, hf⟩ := ob1_use hf
                  refine r_callV0 C h (cw_L_rows_X4_count_9 C.hts) (rest := [.int x8]) (ci := 4) (N := 5) (Cn := RX4) (T := TX4) (c_X4_count l G cI cC cZ X d0 b0 sl a0 a1 a2 a3 a4 a5 a6 a7 a8 p0 p1 h0 h1 nu va qu sc lo wt ch pl pa po pf ps ho hs (5 : Int32) r_35 hq_36) [0, 1, 2, 3, 4, 5, 6, 7, 8, 9, 10, 11, 12] rfl rfl rfl 0 rfl rfl hl.1 rfl (Nat.le_of_ble_eq_true rfl) ⟨Nat.le_of_ble_eq_true rfl, Nat.le_of_ble_eq_true rfl⟩ rfl dL_rows_223 (fun H locs h => ?_)
                  refine lv_icmp_lt (tgt := 234) hx hb dL_rows_226 (by decide) (fun hc => ?_) (fun hc => ?_)
                  · replace hf := it_t hf hc
                    refine lv_iconst (v := 1) hx hb dL_rows_234 (by decide) ?_
                    refine lv_goto (tgt := 239) hx hb dL_rows_235 (by decide) ?_
                    refine lv_istore (lv' := [(5, .int 1), (9, .int 0), (0, .ref d0), (1, .int x1), (3, .int x3), (6, .int x6), (7, .int x7), (8, .int x8)]) hx hb dL_rows_239 hl (by decide) rfl (fun ls hl => ?_)
                    refine lv_iload hx hb dL_rows_241 (lv_at hl 6 rfl) ?_
                    refine lv_if_eq (tgt := 255) hx hb dL_rows_243 (by decide) (fun hc => ?_) (fun hc => ?_)
                    · replace hf := it_t hf hc
                      refine lv_iconst (v := 0) hx hb dL_rows_255 (by decide) ?_
                      refine lv_istore (lv' := [(7, .int 0), (5, .int 1), (9, .int 0), (0, .ref d0), (1, .int x1), (3, .int x3), (6, .int x6), (8, .int x8)]) hx hb dL_rows_256 hl (by decide) rfl (fun ls hl => ?_)
                      refine lv_iload hx hb dL_rows_258 (lv_at hl 6 rfl) ?_
                      refine lv_iload hx hb dL_rows_260 (lv_at hl 0 rfl) ?_
                      refine lv_if_eq (tgt := 269) hx hb dL_rows_262 (by decide) (fun _ => ?_) (fun hc => absurd hc (by decide))
                      refine lv_iconst (v := 0) hx hb dL_rows_269 (by decide) ?_
                      refine lv_iadd hx hb dL_rows_270 ?_
                      refine lv_topi (fun x6_37 ex6_37 => ?_)
                      replace hf := nm_use hf ex6_37
                      refine lv_istore (lv' := [(6, .int x6_37), (7, .int 0), (5, .int 1), (9, .int 0), (0, .ref d0), (1, .int x1), (3, .int x3), (8, .int x8)]) hx hb dL_rows_271 hl (by decide) rfl (fun ls hl => ?_)
                      obtain ⟨x8_38, ex8_38⟩ : ∃ y : Int32, y = x8 + 1 := ⟨_, rfl⟩
                      replace hf := nm_use hf ex8_38
                      refine lv_iinc (v := x8_38) (lv' := [(8, .int x8_38), (6, .int x6_37), (7, .int 0), (5, .int 1), (9, .int 0), (0, .ref d0), (1, .int x1), (3, .int x3)]) hx hb dL_rows_273 hl (k := 7) rfl (by rw [ex8_38]; rfl) (by decide) rfl (fun ls hl => ?_)
                      refine lv_goto (tgt := 136) hx hb dL_rows_276 (by decide) ?_
                      exact ih x1 x3 1 x6_37 0 x8_38 _ _ _ h (lv_sub hl [5, 6, 7, 3, 1, 2, 0] rfl) hf
                    · replace hf := it_f hf hc
                      refine lv_iload hx hb dL_rows_246 (lv_at hl 1 rfl) ?_
                      refine lv_if_eq (tgt := 255) hx hb dL_rows_248 (by decide) (fun _ => ?_) (fun hc => absurd hc (by decide))
                      refine lv_iconst (v := 0) hx hb dL_rows_255 (by decide) ?_
                      refine lv_istore (lv' := [(7, .int 0), (5, .int 1), (9, .int 0), (0, .ref d0), (1, .int x1), (3, .int x3), (6, .int x6), (8, .int x8)]) hx hb dL_rows_256 hl (by decide) rfl (fun ls hl => ?_)
                      refine lv_iload hx hb dL_rows_258 (lv_at hl 6 rfl) ?_
                      refine lv_iload hx hb dL_rows_260 (lv_at hl 0 rfl) ?_
                      refine lv_if_eq (tgt := 269) hx hb dL_rows_262 (by decide) (fun _ => ?_) (fun hc => absurd hc (by decide))
                      refine lv_iconst (v := 0) hx hb dL_rows_269 (by decide) ?_
                      refine lv_iadd hx hb dL_rows_270 ?_
                      refine lv_topi (fun x6_39 ex6_39 => ?_)
                      replace hf := nm_use hf ex6_39
                      refine lv_istore (lv' := [(6, .int x6_39), (7, .int 0), (5, .int 1), (9, .int 0), (0, .ref d0), (1, .int x1), (3, .int x3), (8, .int x8)]) hx hb dL_rows_271 hl (by decide) rfl (fun ls hl => ?_)
                      obtain ⟨x8_40, ex8_40⟩ : ∃ y : Int32, y = x8 + 1 := ⟨_, rfl⟩
                      replace hf := nm_use hf ex8_40
                      refine lv_iinc (v := x8_40) (lv' := [(8, .int x8_40), (6, .int x6_39), (7, .int 0), (5, .int 1), (9, .int 0), (0, .ref d0), (1, .int x1), (3, .int x3)]) hx hb dL_rows_273 hl (k := 7) rfl (by rw [ex8_40]; rfl) (by decide) rfl (fun ls hl => ?_)
                      refine lv_goto (tgt := 136) hx hb dL_rows_276 (by decide) ?_
                      exact ih x1 x3 1 x6_39 0 x8_40 _ _ _ h (lv_sub hl [5, 6, 7, 3, 1, 2, 0] rfl) hf
                  · replace hf := it_f hf hc
                    refine lv_iload hx hb dL_rows_229 (lv_at hl 0 rfl) ?_
                    refine lv_if_ne (tgt := 238) hx hb dL_rows_231 (by decide) (fun hc => absurd hc (by decide)) (fun _ => ?_)
                    refine lv_iconst (v := 1) hx hb dL_rows_234 (by decide) ?_
                    refine lv_goto (tgt := 239) hx hb dL_rows_235 (by decide) ?_
                    refine lv_istore (lv' := [(5, .int 1), (9, .int 0), (0, .ref d0), (1, .int x1), (3, .int x3), (6, .int x6), (7, .int x7), (8, .int x8)]) hx hb dL_rows_239 hl (by decide) rfl (fun ls hl => ?_)
                    refine lv_iload hx hb dL_rows_241 (lv_at hl 6 rfl) ?_
                    refine lv_if_eq (tgt := 255) hx hb dL_rows_243 (by decide) (fun hc => ?_) (fun hc => ?_)
                    · replace hf := it_t hf hc
                      refine lv_iconst (v := 0) hx hb dL_rows_255 (by decide) ?_
                      refine lv_istore (lv' := [(7, .int 0), (5, .int 1), (9, .int 0), (0, .ref d0), (1, .int x1), (3, .int x3), (6, .int x6), (8, .int x8)]) hx hb dL_rows_256 hl (by decide) rfl (fun ls hl => ?_)
                      refine lv_iload hx hb dL_rows_258 (lv_at hl 6 rfl) ?_
                      refine lv_iload hx hb dL_rows_260 (lv_at hl 0 rfl) ?_
                      refine lv_if_eq (tgt := 269) hx hb dL_rows_262 (by decide) (fun _ => ?_) (fun hc => absurd hc (by decide))
                      refine lv_iconst (v := 0) hx hb dL_rows_269 (by decide) ?_
                      refine lv_iadd hx hb dL_rows_270 ?_
                      refine lv_topi (fun x6_41 ex6_41 => ?_)
                      replace hf := nm_use hf ex6_41
                      refine lv_istore (lv' := [(6, .int x6_41), (7, .int 0), (5, .int 1), (9, .int 0), (0, .ref d0), (1, .int x1), (3, .int x3), (8, .int x8)]) hx hb dL_rows_271 hl (by decide) rfl (fun ls hl => ?_)
                      obtain ⟨x8_42, ex8_42⟩ : ∃ y : Int32, y = x8 + 1 := ⟨_, rfl⟩
                      replace hf := nm_use hf ex8_42
                      refine lv_iinc (v := x8_42) (lv' := [(8, .int x8_42), (6, .int x6_41), (7, .int 0), (5, .int 1), (9, .int 0), (0, .ref d0), (1, .int x1), (3, .int x3)]) hx hb dL_rows_273 hl (k := 7) rfl (by rw [ex8_42]; rfl) (by decide) rfl (fun ls hl => ?_)
                      refine lv_goto (tgt := 136) hx hb dL_rows_276 (by decide) ?_
                      exact ih x1 x3 1 x6_41 0 x8_42 _ _ _ h (lv_sub hl [5, 6, 7, 3, 1, 2, 0] rfl) hf
                    · replace hf := it_f hf hc
                      refine lv_iload hx hb dL_rows_246 (lv_at hl 1 rfl) ?_
                      refine lv_if_eq (tgt := 255) hx hb dL_rows_248 (by decide) (fun _ => ?_) (fun hc => absurd hc (by decide))
                      refine lv_iconst (v := 0) hx hb dL_rows_255 (by decide) ?_
                      refine lv_istore (lv' := [(7, .int 0), (5, .int 1), (9, .int 0), (0, .ref d0), (1, .int x1), (3, .int x3), (6, .int x6), (8, .int x8)]) hx hb dL_rows_256 hl (by decide) rfl (fun ls hl => ?_)
                      refine lv_iload hx hb dL_rows_258 (lv_at hl 6 rfl) ?_
                      refine lv_iload hx hb dL_rows_260 (lv_at hl 0 rfl) ?_
                      refine lv_if_eq (tgt := 269) hx hb dL_rows_262 (by decide) (fun _ => ?_) (fun hc => absurd hc (by decide))
                      refine lv_iconst (v := 0) hx hb dL_rows_269 (by decide) ?_
                      refine lv_iadd hx hb dL_rows_270 ?_
                      refine lv_topi (fun x6_43 ex6_43 => ?_)
                      replace hf := nm_use hf ex6_43
                      refine lv_istore (lv' := [(6, .int x6_43), (7, .int 0), (5, .int 1), (9, .int 0), (0, .ref d0), (1, .int x1), (3, .int x3), (8, .int x8)]) hx hb dL_rows_271 hl (by decide) rfl (fun ls hl => ?_)
                      obtain ⟨x8_44, ex8_44⟩ : ∃ y : Int32, y = x8 + 1 := ⟨_, rfl⟩
                      replace hf := nm_use hf ex8_44
                      refine lv_iinc (v := x8_44) (lv' := [(8, .int x8_44), (6, .int x6_43), (7, .int 0), (5, .int 1), (9, .int 0), (0, .ref d0), (1, .int x1), (3, .int x3)]) hx hb dL_rows_273 hl (k := 7) rfl (by rw [ex8_44]; rfl) (by decide) rfl (fun ls hl => ?_)
                      refine lv_goto (tgt := 136) hx hb dL_rows_276 (by decide) ?_
                      exact ih x1 x3 1 x6_43 0 x8_44 _ _ _ h (lv_sub hl [5, 6, 7, 3, 1, 2, 0] rfl) hf
                · replace hf := it_f hf hc
                  refine lv_iconst (v := 1) hx hb dL_rows_211 (by decide) ?_
                  refine lv_goto (tgt := 216) hx hb dL_rows_212 (by decide) ?_
                  refine lv_icmp_ne (tgt := 238) hx hb dL_rows_216 (by decide) (fun _ => ?_) (fun hc => absurd hc (by decide))
                  refine lv_iconst (v := 0) hx hb dL_rows_238 (by decide) ?_
                  refine lv_istore (lv' := [(5, .int 0), (9, .int 0), (0, .ref d0), (1, .int x1), (3, .int x3), (6, .int x6), (7, .int x7), (8, .int x8)]) hx hb dL_rows_239 hl (by decide) rfl (fun ls hl => ?_)
                  refine lv_iload hx hb dL_rows_241 (lv_at hl 6 rfl) ?_
                  refine lv_if_eq (tgt := 255) hx hb dL_rows_243 (by decide) (fun hc => ?_) (fun hc => ?_)
                  · replace hf := it_t hf hc
                    refine lv_iconst (v := 0) hx hb dL_rows_255 (by decide) ?_
                    refine lv_istore (lv' := [(7, .int 0), (5, .int 0), (9, .int 0), (0, .ref d0), (1, .int x1), (3, .int x3), (6, .int x6), (8, .int x8)]) hx hb dL_rows_256 hl (by decide) rfl (fun ls hl => ?_)
                    refine lv_iload hx hb dL_rows_258 (lv_at hl 6 rfl) ?_
                    refine lv_iload hx hb dL_rows_260 (lv_at hl 0 rfl) ?_
                    refine lv_if_eq (tgt := 269) hx hb dL_rows_262 (by decide) (fun _ => ?_) (fun hc => absurd hc (by decide))
                    refine lv_iconst (v := 0) hx hb dL_rows_269 (by decide) ?_
                    refine lv_iadd hx hb dL_rows_270 ?_
                    refine lv_topi (fun x6_45 ex6_45 => ?_)
                    replace hf := nm_use hf ex6_45
                    refine lv_istore (lv' := [(6, .int x6_45), (7, .int 0), (5, .int 0), (9, .int 0), (0, .ref d0), (1, .int x1), (3, .int x3), (8, .int x8)]) hx hb dL_rows_271 hl (by decide) rfl (fun ls hl => ?_)
                    obtain ⟨x8_46, ex8_46⟩ : ∃ y : Int32, y = x8 + 1 := ⟨_, rfl⟩
                    replace hf := nm_use hf ex8_46
                    refine lv_iinc (v := x8_46) (lv' := [(8, .int x8_46), (6, .int x6_45), (7, .int 0), (5, .int 0), (9, .int 0), (0, .ref d0), (1, .int x1), (3, .int x3)]) hx hb dL_rows_273 hl (k := 7) rfl (by rw [ex8_46]; rfl) (by decide) rfl (fun ls hl => ?_)
                    refine lv_goto (tgt := 136) hx hb dL_rows_276 (by decide) ?_
                    exact ih x1 x3 0 x6_45 0 x8_46 _ _ _ h (lv_sub hl [5, 6, 7, 3, 1, 2, 0] rfl) hf
                  · replace hf := it_f hf hc
                    refine lv_iload hx hb dL_rows_246 (lv_at hl 1 rfl) ?_
                    refine lv_if_eq (tgt := 255) hx hb dL_rows_248 (by decide) (fun _ => ?_) (fun hc => absurd hc (by decide))
                    refine lv_iconst (v := 0) hx hb dL_rows_255 (by decide) ?_
                    refine lv_istore (lv' := [(7, .int 0), (5, .int 0), (9, .int 0), (0, .ref d0), (1, .int x1), (3, .int x3), (6, .int x6), (8, .int x8)]) hx hb dL_rows_256 hl (by decide) rfl (fun ls hl => ?_)
                    refine lv_iload hx hb dL_rows_258 (lv_at hl 6 rfl) ?_
                    refine lv_iload hx hb dL_rows_260 (lv_at hl 0 rfl) ?_
                    refine lv_if_eq (tgt := 269) hx hb dL_rows_262 (by decide) (fun _ => ?_) (fun hc => absurd hc (by decide))
                    refine lv_iconst (v := 0) hx hb dL_rows_269 (by decide) ?_
                    refine lv_iadd hx hb dL_rows_270 ?_
                    refine lv_topi (fun x6_47 ex6_47 => ?_)
                    replace hf := nm_use hf ex6_47
                    refine lv_istore (lv' := [(6, .int x6_47), (7, .int 0), (5, .int 0), (9, .int 0), (0, .ref d0), (1, .int x1), (3, .int x3), (8, .int x8)]) hx hb dL_rows_271 hl (by decide) rfl (fun ls hl => ?_)
                    obtain ⟨x8_48, ex8_48⟩ : ∃ y : Int32, y = x8 + 1 := ⟨_, rfl⟩
                    replace hf := nm_use hf ex8_48
                    refine lv_iinc (v := x8_48) (lv' := [(8, .int x8_48), (6, .int x6_47), (7, .int 0), (5, .int 0), (9, .int 0), (0, .ref d0), (1, .int x1), (3, .int x3)]) hx hb dL_rows_273 hl (k := 7) rfl (by rw [ex8_48]; rfl) (by decide) rfl (fun ls hl => ?_)
                    refine lv_goto (tgt := 136) hx hb dL_rows_276 (by decide) ?_
                    exact ih x1 x3 0 x6_47 0 x8_48 _ _ _ h (lv_sub hl [5, 6, 7, 3, 1, 2, 0] rfl) hf
          · replace hf := it_f hf hc
            refine lv_iconst (v := 1) hx hb dL_rows_157 (by decide) ?_
            refine lv_goto (tgt := 162) hx hb dL_rows_158 (by decide) ?_
            refine lv_istore (lv' := [(9, .int 1), (0, .ref d0), (1, .int x1), (3, .int x3), (5, .int x5), (6, .int x6), (7, .int x7), (8, .int x8)]) hx hb dL_rows_162 hl (by decide) rfl (fun ls hl => ?_)
            refine lv_aload_n hx hb dL_rows_164 rfl (lv_at hl 1 rfl) ?_
            refine lv_iload hx hb dL_rows_165 (lv_at hl 7 rfl) ?_
            refine lv_iconst (v := 0) hx hb dL_rows_167 (by decide) ?_
            obtain ⟨r_49, hq_50, hf⟩ := ob1_use hf
            refine r_callV0 C h (cw_L_rows_X4_row_19 C.hts) (rest := []) (ci := 4) (N := 5) (Cn := RX4) (T := TX4) (c_X4_row l G cI cC cZ X d0 b0 sl h0 p0 a0 a1 a2 a3 a4 a5 a6 a7 a8 nu va qu sc lo wt x8 (0 : Int32) r_49 hq_50) [0, 1, 2, 3, 4, 5, 6, 7, 8, 9] rfl rfl rfl 0 rfl rfl hl.1 rfl (Nat.le_of_ble_eq_true rfl) ⟨Nat.le_of_ble_eq_true rfl, Nat.le_of_ble_eq_true rfl⟩ rfl dL_rows_168 (fun H locs h => ?_)
            refine lv_bipush (v := (-6)) hx hb dL_rows_171 (by decide) ?_
            refine lv_icmp_ne (tgt := 180) hx hb dL_rows_173 (by decide) (fun hc => ?_) (fun hc => ?_)
            · replace hf := it_f hf hc
              refine lv_iconst (v := 0) hx hb dL_rows_180 (by decide) ?_
              refine lv_iload hx hb dL_rows_181 (lv_at hl 7 rfl) ?_
              refine lv_aload_n hx hb dL_rows_183 rfl (lv_at hl 1 rfl) ?_
              refine lv_iconst (v := 5) hx hb dL_rows_184 (by decide) ?_
              obtain ⟨r_51, hq_52, hf⟩ := ob1_use hf
              refine r_callV0 C h (cw_L_rows_X4_count_9 C.hts) (rest := [.int x8, .int 0]) (ci := 4) (N := 5) (Cn := RX4) (T := TX4) (c_X4_count l G cI cC cZ X d0 b0 sl a0 a1 a2 a3 a4 a5 a6 a7 a8 p0 p1 h0 h1 nu va qu sc lo wt ch pl pa po pf ps ho hs (5 : Int32) r_51 hq_52) [0, 1, 2, 3, 4, 5, 6, 7, 8, 9, 10, 11, 12] rfl rfl rfl 0 rfl rfl hl.1 rfl (Nat.le_of_ble_eq_true rfl) ⟨Nat.le_of_ble_eq_true rfl, Nat.le_of_ble_eq_true rfl⟩ rfl dL_rows_185 (fun H locs h => ?_)
              refine lv_icmp_lt (tgt := 195) hx hb dL_rows_188 (by decide) (fun hc => ?_) (fun hc => ?_)
              · replace hf := it_t hf hc
                refine lv_iconst (v := 0) hx hb dL_rows_195 (by decide) ?_
                refine lv_icmp_ne (tgt := 238) hx hb dL_rows_196 (by decide) (fun hc => absurd hc (by decide)) (fun _ => ?_)
                refine lv_iload hx hb dL_rows_199 (lv_at hl 0 rfl) ?_
                refine lv_aload_n hx hb dL_rows_201 rfl (lv_at hl 1 rfl) ?_
                refine lv_iload hx hb dL_rows_202 (lv_at hl 7 rfl) ?_
                refine lv_iconst (v := 2) hx hb dL_rows_204 (by decide) ?_
                obtain ⟨r_53, hq_54, hf⟩ := ob1_use hf
                refine r_callV0 C h (cw_L_rows_X4_row_19 C.hts) (rest := [.int 1]) (ci := 4) (N := 5) (Cn := RX4) (T := TX4) (c_X4_row l G cI cC cZ X d0 b0 sl h0 p0 a0 a1 a2 a3 a4 a5 a6 a7 a8 nu va qu sc lo wt x8 (2 : Int32) r_53 hq_54) [0, 1, 2, 3, 4, 5, 6, 7, 8, 9] rfl rfl rfl 0 rfl rfl hl.1 rfl (Nat.le_of_ble_eq_true rfl) ⟨Nat.le_of_ble_eq_true rfl, Nat.le_of_ble_eq_true rfl⟩ rfl dL_rows_205 (fun H locs h => ?_)
                refine lv_if_lt (tgt := 215) hx hb dL_rows_208 (by decide) (fun hc => ?_) (fun hc => ?_)
                · replace hf := it_t hf hc
                  refine lv_iconst (v := 0) hx hb dL_rows_215 (by decide) ?_
                  refine lv_icmp_ne (tgt := 238) hx hb dL_rows_216 (by decide) (fun _ => ?_) (fun hc => absurd hc (by decide))
                  refine lv_iconst (v := 0) hx hb dL_rows_238 (by decide) ?_
                  refine lv_istore (lv' := [(5, .int 0), (9, .int 1), (0, .ref d0), (1, .int x1), (3, .int x3), (6, .int x6), (7, .int x7), (8, .int x8)]) hx hb dL_rows_239 hl (by decide) rfl (fun ls hl => ?_)
                  refine lv_iload hx hb dL_rows_241 (lv_at hl 6 rfl) ?_
                  refine lv_if_eq (tgt := 255) hx hb dL_rows_243 (by decide) (fun hc => ?_) (fun hc => ?_)
                  · replace hf := it_t hf hc
                    refine lv_iconst (v := 0) hx hb dL_rows_255 (by decide) ?_
                    refine lv_istore (lv' := [(7, .int 0), (5, .int 0), (9, .int 1), (0, .ref d0), (1, .int x1), (3, .int x3), (6, .int x6), (8, .int x8)]) hx hb dL_rows_256 hl (by decide) rfl (fun ls hl => ?_)
                    refine lv_iload hx hb dL_rows_258 (lv_at hl 6 rfl) ?_
                    refine lv_iload hx hb dL_rows_260 (lv_at hl 0 rfl) ?_
                    refine lv_if_eq (tgt := 269) hx hb dL_rows_262 (by decide) (fun _ => ?_) (fun hc => absurd hc (by decide))
                    refine lv_iconst (v := 0) hx hb dL_rows_269 (by decide) ?_
                    refine lv_iadd hx hb dL_rows_270 ?_
                    refine lv_topi (fun x6_55 ex6_55 => ?_)
                    replace hf := nm_use hf ex6_55
                    refine lv_istore (lv' := [(6, .int x6_55), (7, .int 0), (5, .int 0), (9, .int 1), (0, .ref d0), (1, .int x1), (3, .int x3), (8, .int x8)]) hx hb dL_rows_271 hl (by decide) rfl (fun ls hl => ?_)
                    obtain ⟨x8_56, ex8_56⟩ : ∃ y : Int32, y = x8 + 1 := ⟨_, rfl⟩
                    replace hf := nm_use hf ex8_56
                    refine lv_iinc (v := x8_56) (lv' := [(8, .int x8_56), (6, .int x6_55), (7, .int 0), (5, .int 0), (9, .int 1), (0, .ref d0), (1, .int x1), (3, .int x3)]) hx hb dL_rows_273 hl (k := 7) rfl (by rw [ex8_56]; rfl) (by decide) rfl (fun ls hl => ?_)
                    refine lv_goto (tgt := 136) hx hb dL_rows_276 (by decide) ?_
                    exact ih x1 x3 0 x6_55 0 x8_56 _ _ _ h (lv_sub hl [5, 6, 7, 3, 1, 2, 0] rfl) hf
                  · replace hf := it_f hf hc
                    refine lv_iload hx hb dL_rows_246 (lv_at hl 1 rfl) ?_
                    refine lv_if_eq (tgt := 255) hx hb dL_rows_248 (by decide) (fun hc => absurd hc (by decide)) (fun _ => ?_)
                    refine lv_iconst (v := 1) hx hb dL_rows_251 (by decide) ?_
                    refine lv_goto (tgt := 256) hx hb dL_rows_252 (by decide) ?_
                    refine lv_istore (lv' := [(7, .int 1), (5, .int 0), (9, .int 1), (0, .ref d0), (1, .int x1), (3, .int x3), (6, .int x6), (8, .int x8)]) hx hb dL_rows_256 hl (by decide) rfl (fun ls hl => ?_)
                    refine lv_iload hx hb dL_rows_258 (lv_at hl 6 rfl) ?_
                    refine lv_iload hx hb dL_rows_260 (lv_at hl 0 rfl) ?_
                    refine lv_if_eq (tgt := 269) hx hb dL_rows_262 (by decide) (fun hc => absurd hc (by decide)) (fun _ => ?_)
                    refine lv_iconst (v := 1) hx hb dL_rows_265 (by decide) ?_
                    refine lv_goto (tgt := 270) hx hb dL_rows_266 (by decide) ?_
                    refine lv_iadd hx hb dL_rows_270 ?_
                    refine lv_topi (fun x6_57 ex6_57 => ?_)
                    replace hf := nm_use hf ex6_57
                    refine lv_istore (lv' := [(6, .int x6_57), (7, .int 1), (5, .int 0), (9, .int 1), (0, .ref d0), (1, .int x1), (3, .int x3), (8, .int x8)]) hx hb dL_rows_271 hl (by decide) rfl (fun ls hl => ?_)
                    obtain ⟨x8_58, ex8_58⟩ : ∃ y : Int32, y = x8 + 1 := ⟨_, rfl⟩
                    replace hf := nm_use hf ex8_58
                    refine lv_iinc (v := x8_58) (lv' := [(8, .int x8_58), (6, .int x6_57), (7, .int 1), (5, .int 0), (9, .int 1), (0, .ref d0), (1, .int x1), (3, .int x3)]) hx hb dL_rows_273 hl (k := 7) rfl (by rw [ex8_58]; rfl) (by decide) rfl (fun ls hl => ?_)
                    refine lv_goto (tgt := 136) hx hb dL_rows_276 (by decide) ?_
                    exact ih x1 x3 0 x6_57 1 x8_58 _ _ _ h (lv_sub hl [5, 6, 7, 3, 1, 2, 0] rfl) hf
                · replace hf := it_f hf hc
                  refine lv_iconst (v := 1) hx hb dL_rows_211 (by decide) ?_
                  refine lv_goto (tgt := 216) hx hb dL_rows_212 (by decide) ?_
                  refine lv_icmp_ne (tgt := 238) hx hb dL_rows_216 (by decide) (fun hc => absurd hc (by decide)) (fun _ => ?_)
                  refine lv_iload hx hb dL_rows_219 (lv_at hl 7 rfl) ?_
                  refine lv_aload_n hx hb dL_rows_221 rfl (lv_at hl 1 rfl) ?_
                  refine lv_iconst (v := 5) hx hb dL_rows_222 (by decide) ?_
                  obtain ⟨r_59, hq_60, hf⟩ := ob1_use hf
                  refine r_callV0 C h (cw_L_rows_X4_count_9 C.hts) (rest := [.int x8]) (ci := 4) (N := 5) (Cn := RX4) (T := TX4) (c_X4_count l G cI cC cZ X d0 b0 sl a0 a1 a2 a3 a4 a5 a6 a7 a8 p0 p1 h0 h1 nu va qu sc lo wt ch pl pa po pf ps ho hs (5 : Int32) r_59 hq_60) [0, 1, 2, 3, 4, 5, 6, 7, 8, 9, 10, 11, 12] rfl rfl rfl 0 rfl rfl hl.1 rfl (Nat.le_of_ble_eq_true rfl) ⟨Nat.le_of_ble_eq_true rfl, Nat.le_of_ble_eq_true rfl⟩ rfl dL_rows_223 (fun H locs h => ?_)
                  refine lv_icmp_lt (tgt := 234) hx hb dL_rows_226 (by decide) (fun hc => ?_) (fun hc => ?_)
                  · replace hf := it_t hf hc
                    refine lv_iconst (v := 1) hx hb dL_rows_234 (by decide) ?_
                    refine lv_goto (tgt := 239) hx hb dL_rows_235 (by decide) ?_
                    refine lv_istore (lv' := [(5, .int 1), (9, .int 1), (0, .ref d0), (1, .int x1), (3, .int x3), (6, .int x6), (7, .int x7), (8, .int x8)]) hx hb dL_rows_239 hl (by decide) rfl (fun ls hl => ?_)
                    refine lv_iload hx hb dL_rows_241 (lv_at hl 6 rfl) ?_
                    refine lv_if_eq (tgt := 255) hx hb dL_rows_243 (by decide) (fun hc => ?_) (fun hc => ?_)
                    · replace hf := it_t hf hc
                      refine lv_iconst (v := 0) hx hb dL_rows_255 (by decide) ?_
                      refine lv_istore (lv' := [(7, .int 0), (5, .int 1), (9, .int 1), (0, .ref d0), (1, .int x1), (3, .int x3), (6, .int x6), (8, .int x8)]) hx hb dL_rows_256 hl (by decide) rfl (fun ls hl => ?_)
                      refine lv_iload hx hb dL_rows_258 (lv_at hl 6 rfl) ?_
                      refine lv_iload hx hb dL_rows_260 (lv_at hl 0 rfl) ?_
                      refine lv_if_eq (tgt := 269) hx hb dL_rows_262 (by decide) (fun _ => ?_) (fun hc => absurd hc (by decide))
                      refine lv_iconst (v := 0) hx hb dL_rows_269 (by decide) ?_
                      refine lv_iadd hx hb dL_rows_270 ?_
                      refine lv_topi (fun x6_61 ex6_61 => ?_)
                      replace hf := nm_use hf ex6_61
                      refine lv_istore (lv' := [(6, .int x6_61), (7, .int 0), (5, .int 1), (9, .int 1), (0, .ref d0), (1, .int x1), (3, .int x3), (8, .int x8)]) hx hb dL_rows_271 hl (by decide) rfl (fun ls hl => ?_)
                      obtain ⟨x8_62, ex8_62⟩ : ∃ y : Int32, y = x8 + 1 := ⟨_, rfl⟩
                      replace hf := nm_use hf ex8_62
                      refine lv_iinc (v := x8_62) (lv' := [(8, .int x8_62), (6, .int x6_61), (7, .int 0), (5, .int 1), (9, .int 1), (0, .ref d0), (1, .int x1), (3, .int x3)]) hx hb dL_rows_273 hl (k := 7) rfl (by rw [ex8_62]; rfl) (by decide) rfl (fun ls hl => ?_)
                      refine lv_goto (tgt := 136) hx hb dL_rows_276 (by decide) ?_
                      exact ih x1 x3 1 x6_61 0 x8_62 _ _ _ h (lv_sub hl [5, 6, 7, 3, 1, 2, 0] rfl) hf
                    · replace hf := it_f hf hc
                      refine lv_iload hx hb dL_rows_246 (lv_at hl 1 rfl) ?_
                      refine lv_if_eq (tgt := 255) hx hb dL_rows_248 (by decide) (fun hc => absurd hc (by decide)) (fun _ => ?_)
                      refine lv_iconst (v := 1) hx hb dL_rows_251 (by decide) ?_
                      refine lv_goto (tgt := 256) hx hb dL_rows_252 (by decide) ?_
                      refine lv_istore (lv' := [(7, .int 1), (5, .int 1), (9, .int 1), (0, .ref d0), (1, .int x1), (3, .int x3), (6, .int x6), (8, .int x8)]) hx hb dL_rows_256 hl (by decide) rfl (fun ls hl => ?_)
                      refine lv_iload hx hb dL_rows_258 (lv_at hl 6 rfl) ?_
                      refine lv_iload hx hb dL_rows_260 (lv_at hl 0 rfl) ?_
                      refine lv_if_eq (tgt := 269) hx hb dL_rows_262 (by decide) (fun hc => absurd hc (by decide)) (fun _ => ?_)
                      refine lv_iconst (v := 1) hx hb dL_rows_265 (by decide) ?_
                      refine lv_goto (tgt := 270) hx hb dL_rows_266 (by decide) ?_
                      refine lv_iadd hx hb dL_rows_270 ?_
                      refine lv_topi (fun x6_63 ex6_63 => ?_)
                      replace hf := nm_use hf ex6_63
                      refine lv_istore (lv' := [(6, .int x6_63), (7, .int 1), (5, .int 1), (9, .int 1), (0, .ref d0), (1, .int x1), (3, .int x3), (8, .int x8)]) hx hb dL_rows_271 hl (by decide) rfl (fun ls hl => ?_)
                      obtain ⟨x8_64, ex8_64⟩ : ∃ y : Int32, y = x8 + 1 := ⟨_, rfl⟩
                      replace hf := nm_use hf ex8_64
                      refine lv_iinc (v := x8_64) (lv' := [(8, .int x8_64), (6, .int x6_63), (7, .int 1), (5, .int 1), (9, .int 1), (0, .ref d0), (1, .int x1), (3, .int x3)]) hx hb dL_rows_273 hl (k := 7) rfl (by rw [ex8_64]; rfl) (by decide) rfl (fun ls hl => ?_)
                      refine lv_goto (tgt := 136) hx hb dL_rows_276 (by decide) ?_
                      exact ih x1 x3 1 x6_63 1 x8_64 _ _ _ h (lv_sub hl [5, 6, 7, 3, 1, 2, 0] rfl) hf
                  · replace hf := it_f hf hc
                    refine lv_iload hx hb dL_rows_229 (lv_at hl 0 rfl) ?_
                    refine lv_if_ne (tgt := 238) hx hb dL_rows_231 (by decide) (fun _ => ?_) (fun hc => absurd hc (by decide))
                    refine lv_iconst (v := 0) hx hb dL_rows_238 (by decide) ?_
                    refine lv_istore (lv' := [(5, .int 0), (9, .int 1), (0, .ref d0), (1, .int x1), (3, .int x3), (6, .int x6), (7, .int x7), (8, .int x8)]) hx hb dL_rows_239 hl (by decide) rfl (fun ls hl => ?_)
                    refine lv_iload hx hb dL_rows_241 (lv_at hl 6 rfl) ?_
                    refine lv_if_eq (tgt := 255) hx hb dL_rows_243 (by decide) (fun hc => ?_) (fun hc => ?_)
                    · replace hf := it_t hf hc
                      refine lv_iconst (v := 0) hx hb dL_rows_255 (by decide) ?_
                      refine lv_istore (lv' := [(7, .int 0), (5, .int 0), (9, .int 1), (0, .ref d0), (1, .int x1), (3, .int x3), (6, .int x6), (8, .int x8)]) hx hb dL_rows_256 hl (by decide) rfl (fun ls hl => ?_)
                      refine lv_iload hx hb dL_rows_258 (lv_at hl 6 rfl) ?_
                      refine lv_iload hx hb dL_rows_260 (lv_at hl 0 rfl) ?_
                      refine lv_if_eq (tgt := 269) hx hb dL_rows_262 (by decide) (fun _ => ?_) (fun hc => absurd hc (by decide))
                      refine lv_iconst (v := 0) hx hb dL_rows_269 (by decide) ?_
                      refine lv_iadd hx hb dL_rows_270 ?_
                      refine lv_topi (fun x6_65 ex6_65 => ?_)
                      replace hf := nm_use hf ex6_65
                      refine lv_istore (lv' := [(6, .int x6_65), (7, .int 0), (5, .int 0), (9, .int 1), (0, .ref d0), (1, .int x1), (3, .int x3), (8, .int x8)]) hx hb dL_rows_271 hl (by decide) rfl (fun ls hl => ?_)
                      obtain ⟨x8_66, ex8_66⟩ : ∃ y : Int32, y = x8 + 1 := ⟨_, rfl⟩
                      replace hf := nm_use hf ex8_66
                      refine lv_iinc (v := x8_66) (lv' := [(8, .int x8_66), (6, .int x6_65), (7, .int 0), (5, .int 0), (9, .int 1), (0, .ref d0), (1, .int x1), (3, .int x3)]) hx hb dL_rows_273 hl (k := 7) rfl (by rw [ex8_66]; rfl) (by decide) rfl (fun ls hl => ?_)
                      refine lv_goto (tgt := 136) hx hb dL_rows_276 (by decide) ?_
                      exact ih x1 x3 0 x6_65 0 x8_66 _ _ _ h (lv_sub hl [5, 6, 7, 3, 1, 2, 0] rfl) hf
                    · replace hf := it_f hf hc
                      refine lv_iload hx hb dL_rows_246 (lv_at hl 1 rfl) ?_
                      refine lv_if_eq (tgt := 255) hx hb dL_rows_248 (by decide) (fun hc => absurd hc (by decide)) (fun _ => ?_)
                      refine lv_iconst (v := 1) hx hb dL_rows_251 (by decide) ?_
                      refine lv_goto (tgt := 256) hx hb dL_rows_252 (by decide) ?_
                      refine lv_istore (lv' := [(7, .int 1), (5, .int 0), (9, .int 1), (0, .ref d0), (1, .int x1), (3, .int x3), (6, .int x6), (8, .int x8)]) hx hb dL_rows_256 hl (by decide) rfl (fun ls hl => ?_)
                      refine lv_iload hx hb dL_rows_258 (lv_at hl 6 rfl) ?_
                      refine lv_iload hx hb dL_rows_260 (lv_at hl 0 rfl) ?_
                      refine lv_if_eq (tgt := 269) hx hb dL_rows_262 (by decide) (fun hc => absurd hc (by decide)) (fun _ => ?_)
                      refine lv_iconst (v := 1) hx hb dL_rows_265 (by decide) ?_
                      refine lv_goto (tgt := 270) hx hb dL_rows_266 (by decide) ?_
                      refine lv_iadd hx hb dL_rows_270 ?_
                      refine lv_topi (fun x6_67 ex6_67 => ?_)
                      replace hf := nm_use hf ex6_67
                      refine lv_istore (lv' := [(6, .int x6_67), (7, .int 1), (5, .int 0), (9, .int 1), (0, .ref d0), (1, .int x1), (3, .int x3), (8, .int x8)]) hx hb dL_rows_271 hl (by decide) rfl (fun ls hl => ?_)
                      obtain ⟨x8_68, ex8_68⟩ : ∃ y : Int32, y = x8 + 1 := ⟨_, rfl⟩
                      replace hf := nm_use hf ex8_68
                      refine lv_iinc (v := x8_68) (lv' := [(8, .int x8_68), (6, .int x6_67), (7, .int 1), (5, .int 0), (9, .int 1), (0, .ref d0), (1, .int x1), (3, .int x3)]) hx hb dL_rows_273 hl (k := 7) rfl (by rw [ex8_68]; rfl) (by decide) rfl (fun ls hl => ?_)
                      refine lv_goto (tgt := 136) hx hb dL_rows_276 (by decide) ?_
                      exact ih x1 x3 0 x6_67 1 x8_68 _ _ _ h (lv_sub hl [5, 6, 7, 3, 1, 2, 0] rfl) hf
              · replace hf := it_f hf hc
                refine lv_iconst (v := 1) hx hb dL_rows_191 (by decide) ?_
                refine lv_goto (tgt := 196) hx hb dL_rows_192 (by decide) ?_
                refine lv_icmp_ne (tgt := 238) hx hb dL_rows_196 (by decide) (fun _ => ?_) (fun hc => absurd hc (by decide))
                refine lv_iconst (v := 0) hx hb dL_rows_238 (by decide) ?_
                refine lv_istore (lv' := [(5, .int 0), (9, .int 1), (0, .ref d0), (1, .int x1), (3, .int x3), (6, .int x6), (7, .int x7), (8, .int x8)]) hx hb dL_rows_239 hl (by decide) rfl (fun ls hl => ?_)
                refine lv_iload hx hb dL_rows_241 (lv_at hl 6 rfl) ?_
                refine lv_if_eq (tgt := 255) hx hb dL_rows_243 (by decide) (fun hc => ?_) (fun hc => ?_)
                · replace hf := it_t hf hc
                  refine lv_iconst (v := 0) hx hb dL_rows_255 (by decide) ?_
                  refine lv_istore (lv' := [(7, .int 0), (5, .int 0), (9, .int 1), (0, .ref d0), (1, .int x1), (3, .int x3), (6, .int x6), (8, .int x8)]) hx hb dL_rows_256 hl (by decide) rfl (fun ls hl => ?_)
                  refine lv_iload hx hb dL_rows_258 (lv_at hl 6 rfl) ?_
                  refine lv_iload hx hb dL_rows_260 (lv_at hl 0 rfl) ?_
                  refine lv_if_eq (tgt := 269) hx hb dL_rows_262 (by decide) (fun _ => ?_) (fun hc => absurd hc (by decide))
                  refine lv_iconst (v := 0) hx hb dL_rows_269 (by decide) ?_
                  refine lv_iadd hx hb dL_rows_270 ?_
                  refine lv_topi (fun x6_69 ex6_69 => ?_)
                  replace hf := nm_use hf ex6_69
                  refine lv_istore (lv' := [(6, .int x6_69), (7, .int 0), (5, .int 0), (9, .int 1), (0, .ref d0), (1, .int x1), (3, .int x3), (8, .int x8)]) hx hb dL_rows_271 hl (by decide) rfl (fun ls hl => ?_)
                  obtain ⟨x8_70, ex8_70⟩ : ∃ y : Int32, y = x8 + 1 := ⟨_, rfl⟩
                  replace hf := nm_use hf ex8_70
                  refine lv_iinc (v := x8_70) (lv' := [(8, .int x8_70), (6, .int x6_69), (7, .int 0), (5, .int 0), (9, .int 1), (0, .ref d0), (1, .int x1), (3, .int x3)]) hx hb dL_rows_273 hl (k := 7) rfl (by rw [ex8_70]; rfl) (by decide) rfl (fun ls hl => ?_)
                  refine lv_goto (tgt := 136) hx hb dL_rows_276 (by decide) ?_
                  exact ih x1 x3 0 x6_69 0 x8_70 _ _ _ h (lv_sub hl [5, 6, 7, 3, 1, 2, 0] rfl) hf
                · replace hf := it_f hf hc
                  refine lv_iload hx hb dL_rows_246 (lv_at hl 1 rfl) ?_
                  refine lv_if_eq (tgt := 255) hx hb dL_rows_248 (by decide) (fun hc => absurd hc (by decide)) (fun _ => ?_)
                  refine lv_iconst (v := 1) hx hb dL_rows_251 (by decide) ?_
                  refine lv_goto (tgt := 256) hx hb dL_rows_252 (by decide) ?_
                  refine lv_istore (lv' := [(7, .int 1), (5, .int 0), (9, .int 1), (0, .ref d0), (1, .int x1), (3, .int x3), (6, .int x6), (8, .int x8)]) hx hb dL_rows_256 hl (by decide) rfl (fun ls hl => ?_)
                  refine lv_iload hx hb dL_rows_258 (lv_at hl 6 rfl) ?_
                  refine lv_iload hx hb dL_rows_260 (lv_at hl 0 rfl) ?_
                  refine lv_if_eq (tgt := 269) hx hb dL_rows_262 (by decide) (fun hc => absurd hc (by decide)) (fun _ => ?_)
                  refine lv_iconst (v := 1) hx hb dL_rows_265 (by decide) ?_
                  refine lv_goto (tgt := 270) hx hb dL_rows_266 (by decide) ?_
                  refine lv_iadd hx hb dL_rows_270 ?_
                  refine lv_topi (fun x6_71 ex6_71 => ?_)
                  replace hf := nm_use hf ex6_71
                  refine lv_istore (lv' := [(6, .int x6_71), (7, .int 1), (5, .int 0), (9, .int 1), (0, .ref d0), (1, .int x1), (3, .int x3), (8, .int x8)]) hx hb dL_rows_271 hl (by decide) rfl (fun ls hl => ?_)
                  obtain ⟨x8_72, ex8_72⟩ : ∃ y : Int32, y = x8 + 1 := ⟨_, rfl⟩
                  replace hf := nm_use hf ex8_72
                  refine lv_iinc (v := x8_72) (lv' := [(8, .int x8_72), (6, .int x6_71), (7, .int 1), (5, .int 0), (9, .int 1), (0, .ref d0), (1, .int x1), (3, .int x3)]) hx hb dL_rows_273 hl (k := 7) rfl (by rw [ex8_72]; rfl) (by decide) rfl (fun ls hl => ?_)
                  refine lv_goto (tgt := 136) hx hb dL_rows_276 (by decide) ?_
                  exact ih x1 x3 0 x6_71 1 x8_72 _ _ _ h (lv_sub hl [5, 6, 7, 3, 1, 2, 0] rfl) hf
            · replace hf := it_t hf hc
              refine lv_iconst (v := 1) hx hb dL_rows_176 (by decide) ?_
              refine lv_goto (tgt := 181) hx hb dL_rows_177 (by decide) ?_
              refine lv_iload hx hb dL_rows_181 (lv_at hl 7 rfl) ?_
              refine lv_aload_n hx hb dL_rows_183 rfl (lv_at hl 1 rfl) ?_
              refine lv_iconst (v := 5) hx hb dL_rows_184 (by decide) ?_
              obtain ⟨r_73, hq_74, hf⟩ := ob1_use hf
              refine r_callV0 C h (cw_L_rows_X4_count_9 C.hts) (rest := [.int x8, .int 1]) (ci := 4) (N := 5) (Cn := RX4) (T := TX4) (c_X4_count l G cI cC cZ X d0 b0 sl a0 a1 a2 a3 a4 a5 a6 a7 a8 p0 p1 h0 h1 nu va qu sc lo wt ch pl pa po pf ps ho hs (5 : Int32) r_73 hq_74) [0, 1, 2, 3, 4, 5, 6, 7, 8, 9, 10, 11, 12] rfl rfl rfl 0 rfl rfl hl.1 rfl (Nat.le_of_ble_eq_true rfl) ⟨Nat.le_of_ble_eq_true rfl, Nat.le_of_ble_eq_true rfl⟩ rfl dL_rows_185 (fun H locs h => ?_)
              refine lv_icmp_lt (tgt := 195) hx hb dL_rows_188 (by decide) (fun hc => ?_) (fun hc => ?_)
              · replace hf := it_t hf hc
                refine lv_iconst (v := 0) hx hb dL_rows_195 (by decide) ?_
                refine lv_icmp_ne (tgt := 238) hx hb dL_rows_196 (by decide) (fun _ => ?_) (fun hc => absurd hc (by decide))
                refine lv_iconst (v := 0) hx hb dL_rows_238 (by decide) ?_
                refine lv_istore (lv' := [(5, .int 0), (9, .int 1), (0, .ref d0), (1, .int x1), (3, .int x3), (6, .int x6), (7, .int x7), (8, .int x8)]) hx hb dL_rows_239 hl (by decide) rfl (fun ls hl => ?_)
                refine lv_iload hx hb dL_rows_241 (lv_at hl 6 rfl) ?_
                refine lv_if_eq (tgt := 255) hx hb dL_rows_243 (by decide) (fun hc => ?_) (fun hc => ?_)
                · replace hf := it_t hf hc
                  refine lv_iconst (v := 0) hx hb dL_rows_255 (by decide) ?_
                  refine lv_istore (lv' := [(7, .int 0), (5, .int 0), (9, .int 1), (0, .ref d0), (1, .int x1), (3, .int x3), (6, .int x6), (8, .int x8)]) hx hb dL_rows_256 hl (by decide) rfl (fun ls hl => ?_)
                  refine lv_iload hx hb dL_rows_258 (lv_at hl 6 rfl) ?_
                  refine lv_iload hx hb dL_rows_260 (lv_at hl 0 rfl) ?_
                  refine lv_if_eq (tgt := 269) hx hb dL_rows_262 (by decide) (fun _ => ?_) (fun hc => absurd hc (by decide))
                  refine lv_iconst (v := 0) hx hb dL_rows_269 (by decide) ?_
                  refine lv_iadd hx hb dL_rows_270 ?_
                  refine lv_topi (fun x6_75 ex6_75 => ?_)
                  replace hf := nm_use hf ex6_75
                  refine lv_istore (lv' := [(6, .int x6_75), (7, .int 0), (5, .int 0), (9, .int 1), (0, .ref d0), (1, .int x1), (3, .int x3), (8, .int x8)]) hx hb dL_rows_271 hl (by decide) rfl (fun ls hl => ?_)
                  obtain ⟨x8_76, ex8_76⟩ : ∃ y : Int32, y = x8 + 1 := ⟨_, rfl⟩
                  replace hf := nm_use hf ex8_76
                  refine lv_iinc (v := x8_76) (lv' := [(8, .int x8_76), (6, .int x6_75), (7, .int 0), (5, .int 0), (9, .int 1), (0, .ref d0), (1, .int x1), (3, .int x3)]) hx hb dL_rows_273 hl (k := 7) rfl (by rw [ex8_76]; rfl) (by decide) rfl (fun ls hl => ?_)
                  refine lv_goto (tgt := 136) hx hb dL_rows_276 (by decide) ?_
                  exact ih x1 x3 0 x6_75 0 x8_76 _ _ _ h (lv_sub hl [5, 6, 7, 3, 1, 2, 0] rfl) hf
                · replace hf := it_f hf hc
                  refine lv_iload hx hb dL_rows_246 (lv_at hl 1 rfl) ?_
                  refine lv_if_eq (tgt := 255) hx hb dL_rows_248 (by decide) (fun hc => absurd hc (by decide)) (fun _ => ?_)
                  refine lv_iconst (v := 1) hx hb dL_rows_251 (by decide) ?_
                  refine lv_goto (tgt := 256) hx hb dL_rows_252 (by decide) ?_
                  refine lv_istore (lv' := [(7, .int 1), (5, .int 0), (9, .int 1), (0, .ref d0), (1, .int x1), (3, .int x3), (6, .int x6), (8, .int x8)]) hx hb dL_rows_256 hl (by decide) rfl (fun ls hl => ?_)
                  refine lv_iload hx hb dL_rows_258 (lv_at hl 6 rfl) ?_
                  refine lv_iload hx hb dL_rows_260 (lv_at hl 0 rfl) ?_
                  refine lv_if_eq (tgt := 269) hx hb dL_rows_262 (by decide) (fun hc => absurd hc (by decide)) (fun _ => ?_)
                  refine lv_iconst (v := 1) hx hb dL_rows_265 (by decide) ?_
                  refine lv_goto (tgt := 270) hx hb dL_rows_266 (by decide) ?_
                  refine lv_iadd hx hb dL_rows_270 ?_
                  refine lv_topi (fun x6_77 ex6_77 => ?_)
                  replace hf := nm_use hf ex6_77
                  refine lv_istore (lv' := [(6, .int x6_77), (7, .int 1), (5, .int 0), (9, .int 1), (0, .ref d0), (1, .int x1), (3, .int x3), (8, .int x8)]) hx hb dL_rows_271 hl (by decide) rfl (fun ls hl => ?_)
                  obtain ⟨x8_78, ex8_78⟩ : ∃ y : Int32, y = x8 + 1 := ⟨_, rfl⟩
                  replace hf := nm_use hf ex8_78
                  refine lv_iinc (v := x8_78) (lv' := [(8, .int x8_78), (6, .int x6_77), (7, .int 1), (5, .int 0), (9, .int 1), (0, .ref d0), (1, .int x1), (3, .int x3)]) hx hb dL_rows_273 hl (k := 7) rfl (by rw [ex8_78]; rfl) (by decide) rfl (fun ls hl => ?_)
                  refine lv_goto (tgt := 136) hx hb dL_rows_276 (by decide) ?_
                  exact ih x1 x3 0 x6_77 1 x8_78 _ _ _ h (lv_sub hl [5, 6, 7, 3, 1, 2, 0] rfl) hf
              · replace hf := it_f hf hc
                refine lv_iconst (v := 1) hx hb dL_rows_191 (by decide) ?_
                refine lv_goto (tgt := 196) hx hb dL_rows_192 (by decide) ?_
                refine lv_icmp_ne (tgt := 238) hx hb dL_rows_196 (by decide) (fun hc => absurd hc (by decide)) (fun _ => ?_)
                refine lv_iload hx hb dL_rows_199 (lv_at hl 0 rfl) ?_
                refine lv_aload_n hx hb dL_rows_201 rfl (lv_at hl 1 rfl) ?_
                refine lv_iload hx hb dL_rows_202 (lv_at hl 7 rfl) ?_
                refine lv_iconst (v := 2) hx hb dL_rows_204 (by decide) ?_
                obtain ⟨r_79, hq_80, hf⟩ := ob1_use hf
                refine r_callV0 C h (cw_L_rows_X4_row_19 C.hts) (rest := [.int 1]) (ci := 4) (N := 5) (Cn := RX4) (T := TX4) (c_X4_row l G cI cC cZ X d0 b0 sl h0 p0 a0 a1 a2 a3 a4 a5 a6 a7 a8 nu va qu sc lo wt x8 (2 : Int32) r_79 hq_80) [0, 1, 2, 3, 4, 5, 6, 7, 8, 9] rfl rfl rfl 0 rfl rfl hl.1 rfl (Nat.le_of_ble_eq_true rfl) ⟨Nat.le_of_ble_eq_true rfl, Nat.le_of_ble_eq_true rfl⟩ rfl dL_rows_205 (fun H locs h => ?_)
                refine lv_if_lt (tgt := 215) hx hb dL_rows_208 (by decide) (fun hc => ?_) (fun hc => ?_)
                · replace hf := it_t hf hc
                  refine lv_iconst (v := 0) hx hb dL_rows_215 (by decide) ?_
                  refine lv_icmp_ne (tgt := 238) hx hb dL_rows_216 (by decide) (fun _ => ?_) (fun hc => absurd hc (by decide))
                  refine lv_iconst (v := 0) hx hb dL_rows_238 (by decide) ?_
                  refine lv_istore (lv' := [(5, .int 0), (9, .int 1), (0, .ref d0), (1, .int x1), (3, .int x3), (6, .int x6), (7, .int x7), (8, .int x8)]) hx hb dL_rows_239 hl (by decide) rfl (fun ls hl => ?_)
                  refine lv_iload hx hb dL_rows_241 (lv_at hl 6 rfl) ?_
                  refine lv_if_eq (tgt := 255) hx hb dL_rows_243 (by decide) (fun hc => ?_) (fun hc => ?_)
                  · replace hf := it_t hf hc
                    refine lv_iconst (v := 0) hx hb dL_rows_255 (by decide) ?_
                    refine lv_istore (lv' := [(7, .int 0), (5, .int 0), (9, .int 1), (0, .ref d0), (1, .int x1), (3, .int x3), (6, .int x6), (8, .int x8)]) hx hb dL_rows_256 hl (by decide) rfl (fun ls hl => ?_)
                    refine lv_iload hx hb dL_rows_258 (lv_at hl 6 rfl) ?_
                    refine lv_iload hx hb dL_rows_260 (lv_at hl 0 rfl) ?_
                    refine lv_if_eq (tgt := 269) hx hb dL_rows_262 (by decide) (fun _ => ?_) (fun hc => absurd hc (by decide))
                    refine lv_iconst (v := 0) hx hb dL_rows_269 (by decide) ?_
                    refine lv_iadd hx hb dL_rows_270 ?_
                    refine lv_topi (fun x6_81 ex6_81 => ?_)
                    replace hf := nm_use hf ex6_81
                    refine lv_istore (lv' := [(6, .int x6_81), (7, .int 0), (5, .int 0), (9, .int 1), (0, .ref d0), (1, .int x1), (3, .int x3), (8, .int x8)]) hx hb dL_rows_271 hl (by decide) rfl (fun ls hl => ?_)
                    obtain ⟨x8_82, ex8_82⟩ : ∃ y : Int32, y = x8 + 1 := ⟨_, rfl⟩
                    replace hf := nm_use hf ex8_82
                    refine lv_iinc (v := x8_82) (lv' := [(8, .int x8_82), (6, .int x6_81), (7, .int 0), (5, .int 0), (9, .int 1), (0, .ref d0), (1, .int x1), (3, .int x3)]) hx hb dL_rows_273 hl (k := 7) rfl (by rw [ex8_82]; rfl) (by decide) rfl (fun ls hl => ?_)
                    refine lv_goto (tgt := 136) hx hb dL_rows_276 (by decide) ?_
                    exact ih x1 x3 0 x6_81 0 x8_82 _ _ _ h (lv_sub hl [5, 6, 7, 3, 1, 2, 0] rfl) hf
                  · replace hf := it_f hf hc
                    refine lv_iload hx hb dL_rows_246 (lv_at hl 1 rfl) ?_
                    refine lv_if_eq (tgt := 255) hx hb dL_rows_248 (by decide) (fun hc => absurd hc (by decide)) (fun _ => ?_)
                    refine lv_iconst (v := 1) hx hb dL_rows_251 (by decide) ?_
                    refine lv_goto (tgt := 256) hx hb dL_rows_252 (by decide) ?_
                    refine lv_istore (lv' := [(7, .int 1), (5, .int 0), (9, .int 1), (0, .ref d0), (1, .int x1), (3, .int x3), (6, .int x6), (8, .int x8)]) hx hb dL_rows_256 hl (by decide) rfl (fun ls hl => ?_)
                    refine lv_iload hx hb dL_rows_258 (lv_at hl 6 rfl) ?_
                    refine lv_iload hx hb dL_rows_260 (lv_at hl 0 rfl) ?_
                    refine lv_if_eq (tgt := 269) hx hb dL_rows_262 (by decide) (fun hc => absurd hc (by decide)) (fun _ => ?_)
                    refine lv_iconst (v := 1) hx hb dL_rows_265 (by decide) ?_
                    refine lv_goto (tgt := 270) hx hb dL_rows_266 (by decide) ?_
                    refine lv_iadd hx hb dL_rows_270 ?_
                    refine lv_topi (fun x6_83 ex6_83 => ?_)
                    replace hf := nm_use hf ex6_83
                    refine lv_istore (lv' := [(6, .int x6_83), (7, .int 1), (5, .int 0), (9, .int 1), (0, .ref d0), (1, .int x1), (3, .int x3), (8, .int x8)]) hx hb dL_rows_271 hl (by decide) rfl (fun ls hl => ?_)
                    obtain ⟨x8_84, ex8_84⟩ : ∃ y : Int32, y = x8 + 1 := ⟨_, rfl⟩
                    replace hf := nm_use hf ex8_84
                    refine lv_iinc (v := x8_84) (lv' := [(8, .int x8_84), (6, .int x6_83), (7, .int 1), (5, .int 0), (9, .int 1), (0, .ref d0), (1, .int x1), (3, .int x3)]) hx hb dL_rows_273 hl (k := 7) rfl (by rw [ex8_84]; rfl) (by decide) rfl (fun ls hl => ?_)
                    refine lv_goto (tgt := 136) hx hb dL_rows_276 (by decide) ?_
                    exact ih x1 x3 0 x6_83 1 x8_84 _ _ _ h (lv_sub hl [5, 6, 7, 3, 1, 2, 0] rfl) hf
                · replace hf := it_f hf hc
                  refine lv_iconst (v := 1) hx hb dL_rows_211 (by decide) ?_
                  refine lv_goto (tgt := 216) hx hb dL_rows_212 (by decide) ?_
                  refine lv_icmp_ne (tgt := 238) hx hb dL_rows_216 (by decide) (fun hc => absurd hc (by decide)) (fun _ => ?_)
                  refine lv_iload hx hb dL_rows_219 (lv_at hl 7 rfl) ?_
                  refine lv_aload_n hx hb dL_rows_221 rfl (lv_at hl 1 rfl) ?_
                  refine lv_iconst (v := 5) hx hb dL_rows_222 (by decide) ?_
                  obtain ⟨r_85, hq_86, hf⟩ := ob1_use hf
                  refine r_callV0 C h (cw_L_rows_X4_count_9 C.hts) (rest := [.int x8]) (ci := 4) (N := 5) (Cn := RX4) (T := TX4) (c_X4_count l G cI cC cZ X d0 b0 sl a0 a1 a2 a3 a4 a5 a6 a7 a8 p0 p1 h0 h1 nu va qu sc lo wt ch pl pa po pf ps ho hs (5 : Int32) r_85 hq_86) [0, 1, 2, 3, 4, 5, 6, 7, 8, 9, 10, 11, 12] rfl rfl rfl 0 rfl rfl hl.1 rfl (Nat.le_of_ble_eq_true rfl) ⟨Nat.le_of_ble_eq_true rfl, Nat.le_of_ble_eq_true rfl⟩ rfl dL_rows_223 (fun H locs h => ?_)
                  refine lv_icmp_lt (tgt := 234) hx hb dL_rows_226 (by decide) (fun hc => ?_) (fun hc => ?_)
                  · replace hf := it_t hf hc
                    refine lv_iconst (v := 1) hx hb dL_rows_234 (by decide) ?_
                    refine lv_goto (tgt := 239) hx hb dL_rows_235 (by decide) ?_
                    refine lv_istore (lv' := [(5, .int 1), (9, .int 1), (0, .ref d0), (1, .int x1), (3, .int x3), (6, .int x6), (7, .int x7), (8, .int x8)]) hx hb dL_rows_239 hl (by decide) rfl (fun ls hl => ?_)
                    refine lv_iload hx hb dL_rows_241 (lv_at hl 6 rfl) ?_
                    refine lv_if_eq (tgt := 255) hx hb dL_rows_243 (by decide) (fun hc => ?_) (fun hc => ?_)
                    · replace hf := it_t hf hc
                      refine lv_iconst (v := 0) hx hb dL_rows_255 (by decide) ?_
                      refine lv_istore (lv' := [(7, .int 0), (5, .int 1), (9, .int 1), (0, .ref d0), (1, .int x1), (3, .int x3), (6, .int x6), (8, .int x8)]) hx hb dL_rows_256 hl (by decide) rfl (fun ls hl => ?_)
                      refine lv_iload hx hb dL_rows_258 (lv_at hl 6 rfl) ?_
                      refine lv_iload hx hb dL_rows_260 (lv_at hl 0 rfl) ?_
                      refine lv_if_eq (tgt := 269) hx hb dL_rows_262 (by decide) (fun _ => ?_) (fun hc => absurd hc (by decide))
                      refine lv_iconst (v := 0) hx hb dL_rows_269 (by decide) ?_
                      refine lv_iadd hx hb dL_rows_270 ?_
                      refine lv_topi (fun x6_87 ex6_87 => ?_)
                      replace hf := nm_use hf ex6_87
                      refine lv_istore (lv' := [(6, .int x6_87), (7, .int 0), (5, .int 1), (9, .int 1), (0, .ref d0), (1, .int x1), (3, .int x3), (8, .int x8)]) hx hb dL_rows_271 hl (by decide) rfl (fun ls hl => ?_)
                      obtain ⟨x8_88, ex8_88⟩ : ∃ y : Int32, y = x8 + 1 := ⟨_, rfl⟩
                      replace hf := nm_use hf ex8_88
                      refine lv_iinc (v := x8_88) (lv' := [(8, .int x8_88), (6, .int x6_87), (7, .int 0), (5, .int 1), (9, .int 1), (0, .ref d0), (1, .int x1), (3, .int x3)]) hx hb dL_rows_273 hl (k := 7) rfl (by rw [ex8_88]; rfl) (by decide) rfl (fun ls hl => ?_)
                      refine lv_goto (tgt := 136) hx hb dL_rows_276 (by decide) ?_
                      exact ih x1 x3 1 x6_87 0 x8_88 _ _ _ h (lv_sub hl [5, 6, 7, 3, 1, 2, 0] rfl) hf
                    · replace hf := it_f hf hc
                      refine lv_iload hx hb dL_rows_246 (lv_at hl 1 rfl) ?_
                      refine lv_if_eq (tgt := 255) hx hb dL_rows_248 (by decide) (fun hc => absurd hc (by decide)) (fun _ => ?_)
                      refine lv_iconst (v := 1) hx hb dL_rows_251 (by decide) ?_
                      refine lv_goto (tgt := 256) hx hb dL_rows_252 (by decide) ?_
                      refine lv_istore (lv' := [(7, .int 1), (5, .int 1), (9, .int 1), (0, .ref d0), (1, .int x1), (3, .int x3), (6, .int x6), (8, .int x8)]) hx hb dL_rows_256 hl (by decide) rfl (fun ls hl => ?_)
                      refine lv_iload hx hb dL_rows_258 (lv_at hl 6 rfl) ?_
                      refine lv_iload hx hb dL_rows_260 (lv_at hl 0 rfl) ?_
                      refine lv_if_eq (tgt := 269) hx hb dL_rows_262 (by decide) (fun hc => absurd hc (by decide)) (fun _ => ?_)
                      refine lv_iconst (v := 1) hx hb dL_rows_265 (by decide) ?_
                      refine lv_goto (tgt := 270) hx hb dL_rows_266 (by decide) ?_
                      refine lv_iadd hx hb dL_rows_270 ?_
                      refine lv_topi (fun x6_89 ex6_89 => ?_)
                      replace hf := nm_use hf ex6_89
                      refine lv_istore (lv' := [(6, .int x6_89), (7, .int 1), (5, .int 1), (9, .int 1), (0, .ref d0), (1, .int x1), (3, .int x3), (8, .int x8)]) hx hb dL_rows_271 hl (by decide) rfl (fun ls hl => ?_)
                      obtain ⟨x8_90, ex8_90⟩ : ∃ y : Int32, y = x8 + 1 := ⟨_, rfl⟩
                      replace hf := nm_use hf ex8_90
                      refine lv_iinc (v := x8_90) (lv' := [(8, .int x8_90), (6, .int x6_89), (7, .int 1), (5, .int 1), (9, .int 1), (0, .ref d0), (1, .int x1), (3, .int x3)]) hx hb dL_rows_273 hl (k := 7) rfl (by rw [ex8_90]; rfl) (by decide) rfl (fun ls hl => ?_)
                      refine lv_goto (tgt := 136) hx hb dL_rows_276 (by decide) ?_
                      exact ih x1 x3 1 x6_89 1 x8_90 _ _ _ h (lv_sub hl [5, 6, 7, 3, 1, 2, 0] rfl) hf
                  · replace hf := it_f hf hc
                    refine lv_iload hx hb dL_rows_229 (lv_at hl 0 rfl) ?_
                    refine lv_if_ne (tgt := 238) hx hb dL_rows_231 (by decide) (fun _ => ?_) (fun hc => absurd hc (by decide))
                    refine lv_iconst (v := 0) hx hb dL_rows_238 (by decide) ?_
                    refine lv_istore (lv' := [(5, .int 0), (9, .int 1), (0, .ref d0), (1, .int x1), (3, .int x3), (6, .int x6), (7, .int x7), (8, .int x8)]) hx hb dL_rows_239 hl (by decide) rfl (fun ls hl => ?_)
                    refine lv_iload hx hb dL_rows_241 (lv_at hl 6 rfl) ?_
                    refine lv_if_eq (tgt := 255) hx hb dL_rows_243 (by decide) (fun hc => ?_) (fun hc => ?_)
                    · replace hf := it_t hf hc
                      refine lv_iconst (v := 0) hx hb dL_rows_255 (by decide) ?_
                      refine lv_istore (lv' := [(7, .int 0), (5, .int 0), (9, .int 1), (0, .ref d0), (1, .int x1), (3, .int x3), (6, .int x6), (8, .int x8)]) hx hb dL_rows_256 hl (by decide) rfl (fun ls hl => ?_)
                      refine lv_iload hx hb dL_rows_258 (lv_at hl 6 rfl) ?_
                      refine lv_iload hx hb dL_rows_260 (lv_at hl 0 rfl) ?_
                      refine lv_if_eq (tgt := 269) hx hb dL_rows_262 (by decide) (fun _ => ?_) (fun hc => absurd hc (by decide))
                      refine lv_iconst (v := 0) hx hb dL_rows_269 (by decide) ?_
                      refine lv_iadd hx hb dL_rows_270 ?_
                      refine lv_topi (fun x6_91 ex6_91 => ?_)
                      replace hf := nm_use hf ex6_91
                      refine lv_istore (lv' := [(6, .int x6_91), (7, .int 0), (5, .int 0), (9, .int 1), (0, .ref d0), (1, .int x1), (3, .int x3), (8, .int x8)]) hx hb dL_rows_271 hl (by decide) rfl (fun ls hl => ?_)
                      obtain ⟨x8_92, ex8_92⟩ : ∃ y : Int32, y = x8 + 1 := ⟨_, rfl⟩
                      replace hf := nm_use hf ex8_92
                      refine lv_iinc (v := x8_92) (lv' := [(8, .int x8_92), (6, .int x6_91), (7, .int 0), (5, .int 0), (9, .int 1), (0, .ref d0), (1, .int x1), (3, .int x3)]) hx hb dL_rows_273 hl (k := 7) rfl (by rw [ex8_92]; rfl) (by decide) rfl (fun ls hl => ?_)
                      refine lv_goto (tgt := 136) hx hb dL_rows_276 (by decide) ?_
                      exact ih x1 x3 0 x6_91 0 x8_92 _ _ _ h (lv_sub hl [5, 6, 7, 3, 1, 2, 0] rfl) hf
                    · replace hf := it_f hf hc
                      refine lv_iload hx hb dL_rows_246 (lv_at hl 1 rfl) ?_
                      refine lv_if_eq (tgt := 255) hx hb dL_rows_248 (by decide) (fun hc => absurd hc (by decide)) (fun _ => ?_)
                      refine lv_iconst (v := 1) hx hb dL_rows_251 (by decide) ?_
                      refine lv_goto (tgt := 256) hx hb dL_rows_252 (by decide) ?_
                      refine lv_istore (lv' := [(7, .int 1), (5, .int 0), (9, .int 1), (0, .ref d0), (1, .int x1), (3, .int x3), (6, .int x6), (8, .int x8)]) hx hb dL_rows_256 hl (by decide) rfl (fun ls hl => ?_)
                      refine lv_iload hx hb dL_rows_258 (lv_at hl 6 rfl) ?_
                      refine lv_iload hx hb dL_rows_260 (lv_at hl 0 rfl) ?_
                      refine lv_if_eq (tgt := 269) hx hb dL_rows_262 (by decide) (fun hc => absurd hc (by decide)) (fun _ => ?_)
                      refine lv_iconst (v := 1) hx hb dL_rows_265 (by decide) ?_
                      refine lv_goto (tgt := 270) hx hb dL_rows_266 (by decide) ?_
                      refine lv_iadd hx hb dL_rows_270 ?_
                      refine lv_topi (fun x6_93 ex6_93 => ?_)
                      replace hf := nm_use hf ex6_93
                      refine lv_istore (lv' := [(6, .int x6_93), (7, .int 1), (5, .int 0), (9, .int 1), (0, .ref d0), (1, .int x1), (3, .int x3), (8, .int x8)]) hx hb dL_rows_271 hl (by decide) rfl (fun ls hl => ?_)
                      obtain ⟨x8_94, ex8_94⟩ : ∃ y : Int32, y = x8 + 1 := ⟨_, rfl⟩
                      replace hf := nm_use hf ex8_94
                      refine lv_iinc (v := x8_94) (lv' := [(8, .int x8_94), (6, .int x6_93), (7, .int 1), (5, .int 0), (9, .int 1), (0, .ref d0), (1, .int x1), (3, .int x3)]) hx hb dL_rows_273 hl (k := 7) rfl (by rw [ex8_94]; rfl) (by decide) rfl (fun ls hl => ?_)
                      refine lv_goto (tgt := 136) hx hb dL_rows_276 (by decide) ?_
                      exact ih x1 x3 0 x6_93 1 x8_94 _ _ _ h (lv_sub hl [5, 6, 7, 3, 1, 2, 0] rfl) hf
  have cut_127 : ∀ (x1 : Int32) (x3 : Int32) (x5 : Int32) (H : Heap) (locs : List Loc) (ls : Array Slot), Hx s G A (wLDc cI cC d0 b0 sl a0 a1 a2 a3 a4 a5 a6 a7 a8 p0 p1 h0 h1 nu va qu sc lo wt ch pl pa po pf ps ho hs) H locs → lv_has ls 11 [(0, .ref d0), (1, .int x1), (3, .int x3), (5, .int x5)] → fL_rows_127 nu qu sc lo pl hs x1 x3 x5 = some (rv) → W p l e rm_L_rows s m args below meth c H locs 0 0 (MQ below (Qx G (some (.int rv)) (wLDc cI cC d0 b0 sl a0 a1 a2 a3 a4 a5 a6 a7 a8 p0 p1 h0 h1 nu va qu sc lo wt ch pl pa po pf ps ho hs) A) args s 0 0 A) (F0 m 127 ls []) := by
    intro x1 x3 x5 H locs ls h hl hf
    unfold fL_rows_127 at hf
    refine lv_iconst (v := 0) hx hb dL_rows_127 (by decide) ?_
    refine lv_istore (lv' := [(6, .int 0), (0, .ref d0), (1, .int x1), (3, .int x3), (5, .int x5)]) hx hb dL_rows_128 hl (by decide) rfl (fun ls hl => ?_)
    refine lv_iconst (v := 1) hx hb dL_rows_130 (by decide) ?_
    refine lv_istore (lv' := [(7, .int 1), (6, .int 0), (0, .ref d0), (1, .int x1), (3, .int x3), (5, .int x5)]) hx hb dL_rows_131 hl (by decide) rfl (fun ls hl => ?_)
    refine lv_iconst (v := 0) hx hb dL_rows_133 (by decide) ?_
    refine lv_istore (lv' := [(8, .int 0), (7, .int 1), (6, .int 0), (0, .ref d0), (1, .int x1), (3, .int x3), (5, .int x5)]) hx hb dL_rows_134 hl (by decide) rfl (fun ls hl => ?_)
    exact cut_136 KF x1 x3 x5 0 1 0 _ _ _ h (lv_sub hl [3, 4, 5, 6, 2, 1, 0] rfl) hf
  have cut_124 : ∀ (x1 : Int32) (x3 : Int32) (H : Heap) (locs : List Loc) (ls : Array Slot), Hx s G A (wLDc cI cC d0 b0 sl a0 a1 a2 a3 a4 a5 a6 a7 a8 p0 p1 h0 h1 nu va qu sc lo wt ch pl pa po pf ps ho hs) H locs → lv_has ls 11 [(0, .ref d0), (1, .int x1), (3, .int x3)] → fL_rows_124 nu qu sc lo pl hs x1 x3 = some (rv) → W p l e rm_L_rows s m args below meth c H locs 0 0 (MQ below (Qx G (some (.int rv)) (wLDc cI cC d0 b0 sl a0 a1 a2 a3 a4 a5 a6 a7 a8 p0 p1 h0 h1 nu va qu sc lo wt ch pl pa po pf ps ho hs) A) args s 0 0 A) (F0 m 124 ls []) := by
    intro x1 x3 H locs ls h hl hf
    unfold fL_rows_124 at hf
    refine lv_iconst (v := 0) hx hb dL_rows_124 (by decide) ?_
    refine lv_istore (lv' := [(5, .int 0), (0, .ref d0), (1, .int x1), (3, .int x3)]) hx hb dL_rows_125 hl (by decide) rfl (fun ls hl => ?_)
    exact cut_127 x1 x3 0 _ _ _ h (lv_sub hl [1, 2, 3, 0] rfl) hf
  have cut_28 : ∀ (x1 : Int32) (x2 : Int32) (H : Heap) (locs : List Loc) (ls : Array Slot), Hx s G A (wLDc cI cC d0 b0 sl a0 a1 a2 a3 a4 a5 a6 a7 a8 p0 p1 h0 h1 nu va qu sc lo wt ch pl pa po pf ps ho hs) H locs → lv_has ls 11 [(0, .ref d0), (1, .int x1), (2, .int x2)] → fL_rows_28 nu qu sc lo pl hs x1 x2 = some (rv) → W p l e rm_L_rows s m args below meth c H locs 0 0 (MQ below (Qx G (some (.int rv)) (wLDc cI cC d0 b0 sl a0 a1 a2 a3 a4 a5 a6 a7 a8 p0 p1 h0 h1 nu va qu sc lo wt ch pl pa po pf ps ho hs) A) args s 0 0 A) (F0 m 28 ls []) := by
    intro x1 x2 H locs ls h hl hf
    unfold fL_rows_28 at hf
    refine lv_aload_n hx hb dL_rows_28 rfl (lv_at hl 0 rfl) ?_
    refine lv_bipush (v := 12) hx hb dL_rows_29 (by decide) ?_
    obtain ⟨r_1, hq_2, hf⟩ := ob1_use hf
    refine r_callV0 C h (cw_L_rows_X4_count_9 C.hts) (rest := []) (ci := 4) (N := 5) (Cn := RX4) (T := TX4) (c_X4_count l G cI cC cZ X d0 b0 sl a0 a1 a2 a3 a4 a5 a6 a7 a8 p0 p1 h0 h1 nu va qu sc lo wt ch pl pa po pf ps ho hs (12 : Int32) r_1 hq_2) [0, 1, 2, 3, 4, 5, 6, 7, 8, 9, 10, 11, 12] rfl rfl rfl 0 rfl rfl hl.1 rfl (Nat.le_of_ble_eq_true rfl) ⟨Nat.le_of_ble_eq_true rfl, Nat.le_of_ble_eq_true rfl⟩ rfl dL_rows_31 (fun H locs h => ?_)
    refine lv_aload_n hx hb dL_rows_34 rfl (lv_at hl 0 rfl) ?_
    refine lv_bipush (v := 13) hx hb dL_rows_35 (by decide) ?_
    obtain ⟨r_3, hq_4, hf⟩ := ob1_use hf
    refine r_callV0 C h (cw_L_rows_X4_count_9 C.hts) (rest := [.int r_1]) (ci := 4) (N := 5) (Cn := RX4) (T := TX4) (c_X4_count l G cI cC cZ X d0 b0 sl a0 a1 a2 a3 a4 a5 a6 a7 a8 p0 p1 h0 h1 nu va qu sc lo wt ch pl pa po pf ps ho hs (13 : Int32) r_3 hq_4) [0, 1, 2, 3, 4, 5, 6, 7, 8, 9, 10, 11, 12] rfl rfl rfl 0 rfl rfl hl.1 rfl (Nat.le_of_ble_eq_true rfl) ⟨Nat.le_of_ble_eq_true rfl, Nat.le_of_ble_eq_true rfl⟩ rfl dL_rows_37 (fun H locs h => ?_)
    refine lv_iadd hx hb dL_rows_40 ?_
    refine lv_aload_n hx hb dL_rows_41 rfl (lv_at hl 0 rfl) ?_
    refine lv_bipush (v := 14) hx hb dL_rows_42 (by decide) ?_
    obtain ⟨r_5, hq_6, hf⟩ := ob1_use hf
    refine r_callV0 C h (cw_L_rows_X4_count_9 C.hts) (rest := [.int (r_1 + r_3)]) (ci := 4) (N := 5) (Cn := RX4) (T := TX4) (c_X4_count l G cI cC cZ X d0 b0 sl a0 a1 a2 a3 a4 a5 a6 a7 a8 p0 p1 h0 h1 nu va qu sc lo wt ch pl pa po pf ps ho hs (14 : Int32) r_5 hq_6) [0, 1, 2, 3, 4, 5, 6, 7, 8, 9, 10, 11, 12] rfl rfl rfl 0 rfl rfl hl.1 rfl (Nat.le_of_ble_eq_true rfl) ⟨Nat.le_of_ble_eq_true rfl, Nat.le_of_ble_eq_true rfl⟩ rfl dL_rows_44 (fun H locs h => ?_)
    refine lv_iadd hx hb dL_rows_47 ?_
    refine lv_topi (fun x3_7 ex3_7 => ?_)
    replace hf := nm_use hf ex3_7
    refine lv_istore_n (lv' := [(3, .int x3_7), (0, .ref d0), (1, .int x1), (2, .int x2)]) hx hb dL_rows_48 rfl hl (by decide) rfl (fun ls hl => ?_)
    refine lv_aload_n hx hb dL_rows_49 rfl (lv_at hl 1 rfl) ?_
    refine lv_iconst (v := 5) hx hb dL_rows_50 (by decide) ?_
    obtain ⟨r_8, hq_9, hf⟩ := ob1_use hf
    refine r_callV0 C h (cw_L_rows_X4_count_9 C.hts) (rest := []) (ci := 4) (N := 5) (Cn := RX4) (T := TX4) (c_X4_count l G cI cC cZ X d0 b0 sl a0 a1 a2 a3 a4 a5 a6 a7 a8 p0 p1 h0 h1 nu va qu sc lo wt ch pl pa po pf ps ho hs (5 : Int32) r_8 hq_9) [0, 1, 2, 3, 4, 5, 6, 7, 8, 9, 10, 11, 12] rfl rfl rfl 0 rfl rfl hl.1 rfl (Nat.le_of_ble_eq_true rfl) ⟨Nat.le_of_ble_eq_true rfl, Nat.le_of_ble_eq_true rfl⟩ rfl dL_rows_51 (fun H locs h => ?_)
    refine lv_iconst (v := 2) hx hb dL_rows_54 (by decide) ?_
    refine lv_aload_n hx hb dL_rows_55 rfl (lv_at hl 1 rfl) ?_
    refine lv_iconst (v := 3) hx hb dL_rows_56 (by decide) ?_
    obtain ⟨r_10, hq_11, hf⟩ := ob1_use hf
    refine r_callV0 C h (cw_L_rows_X4_count_9 C.hts) (rest := [.int 2, .int r_8]) (ci := 4) (N := 5) (Cn := RX4) (T := TX4) (c_X4_count l G cI cC cZ X d0 b0 sl a0 a1 a2 a3 a4 a5 a6 a7 a8 p0 p1 h0 h1 nu va qu sc lo wt ch pl pa po pf ps ho hs (3 : Int32) r_10 hq_11) [0, 1, 2, 3, 4, 5, 6, 7, 8, 9, 10, 11, 12] rfl rfl rfl 0 rfl rfl hl.1 rfl (Nat.le_of_ble_eq_true rfl) ⟨Nat.le_of_ble_eq_true rfl, Nat.le_of_ble_eq_true rfl⟩ rfl dL_rows_57 (fun H locs h => ?_)
    refine lv_imul hx hb dL_rows_60 ?_
    refine lv_isub hx hb dL_rows_61 ?_
    refine lv_iload_n hx hb dL_rows_62 rfl (lv_at hl 3 rfl) ?_
    refine lv_isub hx hb dL_rows_63 ?_
    refine lv_aload_n hx hb dL_rows_64 rfl (lv_at hl 1 rfl) ?_
    refine lv_bipush (v := 6) hx hb dL_rows_65 (by decide) ?_
    obtain ⟨r_12, hq_13, hf⟩ := ob1_use hf
    refine r_callV0 C h (cw_L_rows_X4_count_9 C.hts) (rest := [.int ((r_8 - (2 * r_10)) - x2)]) (ci := 4) (N := 5) (Cn := RX4) (T := TX4) (c_X4_count l G cI cC cZ X d0 b0 sl a0 a1 a2 a3 a4 a5 a6 a7 a8 p0 p1 h0 h1 nu va qu sc lo wt ch pl pa po pf ps ho hs (6 : Int32) r_12 hq_13) [0, 1, 2, 3, 4, 5, 6, 7, 8, 9, 10, 11, 12] rfl rfl rfl 0 rfl rfl hl.1 rfl (Nat.le_of_ble_eq_true rfl) ⟨Nat.le_of_ble_eq_true rfl, Nat.le_of_ble_eq_true rfl⟩ rfl dL_rows_67 (fun H locs h => ?_)
    refine lv_isub hx hb dL_rows_70 ?_
    refine lv_topi (fun x4_14 ex4_14 => ?_)
    replace hf := nm_use hf ex4_14
    refine lv_istore (lv' := [(4, .int x4_14), (3, .int x3_7), (0, .ref d0), (1, .int x1), (2, .int x2)]) hx hb dL_rows_71 hl (by decide) rfl (fun ls hl => ?_)
    refine lv_iload hx hb dL_rows_73 (lv_at hl 0 rfl) ?_
    refine lv_if_lt (tgt := 124) hx hb dL_rows_75 (by decide) (fun hc => ?_) (fun hc => ?_)
    · replace hf := it_t hf hc
      exact cut_124 x1 x3_7 _ _ _ h (lv_sub hl [2, 3, 1] rfl) hf
    · replace hf := it_f hf hc
      refine lv_iload hx hb dL_rows_78 (lv_at hl 0 rfl) ?_
      refine lv_aload_n hx hb dL_rows_80 rfl (lv_at hl 2 rfl) ?_
      refine lv_iconst (v := 4) hx hb dL_rows_81 (by decide) ?_
      obtain ⟨r_15, hq_16, hf⟩ := ob1_use hf
      refine r_callV0 C h (cw_L_rows_X4_count_9 C.hts) (rest := [.int x4_14]) (ci := 4) (N := 5) (Cn := RX4) (T := TX4) (c_X4_count l G cI cC cZ X d0 b0 sl a0 a1 a2 a3 a4 a5 a6 a7 a8 p0 p1 h0 h1 nu va qu sc lo wt ch pl pa po pf ps ho hs (4 : Int32) r_15 hq_16) [0, 1, 2, 3, 4, 5, 6, 7, 8, 9, 10, 11, 12] rfl rfl rfl 0 rfl rfl hl.1 rfl (Nat.le_of_ble_eq_true rfl) ⟨Nat.le_of_ble_eq_true rfl, Nat.le_of_ble_eq_true rfl⟩ rfl dL_rows_82 (fun H locs h => ?_)
      refine lv_icmp_gt (tgt := 124) hx hb dL_rows_85 (by decide) (fun hc => ?_) (fun hc => ?_)
      · replace hf := it_t hf hc
        exact cut_124 x1 x3_7 _ _ _ h (lv_sub hl [2, 3, 1] rfl) hf
      · replace hf := it_f hf hc
        refine lv_aload_n hx hb dL_rows_88 rfl (lv_at hl 2 rfl) ?_
        refine lv_iconst (v := 5) hx hb dL_rows_89 (by decide) ?_
        obtain ⟨r_17, hq_18, hf⟩ := ob1_use hf
        refine r_callV0 C h (cw_L_rows_X4_count_9 C.hts) (rest := []) (ci := 4) (N := 5) (Cn := RX4) (T := TX4) (c_X4_count l G cI cC cZ X d0 b0 sl a0 a1 a2 a3 a4 a5 a6 a7 a8 p0 p1 h0 h1 nu va qu sc lo wt ch pl pa po pf ps ho hs (5 : Int32) r_17 hq_18) [0, 1, 2, 3, 4, 5, 6, 7, 8, 9, 10, 11, 12] rfl rfl rfl 0 rfl rfl hl.1 rfl (Nat.le_of_ble_eq_true rfl) ⟨Nat.le_of_ble_eq_true rfl, Nat.le_of_ble_eq_true rfl⟩ rfl dL_rows_90 (fun H locs h => ?_)
        refine lv_iload_n hx hb dL_rows_93 rfl (lv_at hl 1 rfl) ?_
        refine lv_iload_n hx hb dL_rows_94 rfl (lv_at hl 3 rfl) ?_
        refine lv_imul hx hb dL_rows_95 ?_
        refine lv_aload_n hx hb dL_rows_96 rfl (lv_at hl 2 rfl) ?_
        refine lv_bipush (v := 7) hx hb dL_rows_97 (by decide) ?_
        obtain ⟨r_19, hq_20, hf⟩ := ob1_use hf
        refine r_callV0 C h (cw_L_rows_X4_count_9 C.hts) (rest := [.int (x3_7 * x1), .int r_17]) (ci := 4) (N := 5) (Cn := RX4) (T := TX4) (c_X4_count l G cI cC cZ X d0 b0 sl a0 a1 a2 a3 a4 a5 a6 a7 a8 p0 p1 h0 h1 nu va qu sc lo wt ch pl pa po pf ps ho hs (7 : Int32) r_19 hq_20) [0, 1, 2, 3, 4, 5, 6, 7, 8, 9, 10, 11, 12] rfl rfl rfl 0 rfl rfl hl.1 rfl (Nat.le_of_ble_eq_true rfl) ⟨Nat.le_of_ble_eq_true rfl, Nat.le_of_ble_eq_true rfl⟩ rfl dL_rows_99 (fun H locs h => ?_)
        refine lv_iadd hx hb dL_rows_102 ?_
        refine lv_icmp_ne (tgt := 124) hx hb dL_rows_103 (by decide) (fun hc => ?_) (fun hc => ?_)
        · replace hf := it_f hf hc
          exact cut_124 x1 x3_7 _ _ _ h (lv_sub hl [2, 3, 1] rfl) hf
        · replace hf := it_t hf hc
          refine lv_aload_n hx hb dL_rows_106 rfl (lv_at hl 2 rfl) ?_
          refine lv_bipush (v := 6) hx hb dL_rows_107 (by decide) ?_
          obtain ⟨r_21, hq_22, hf⟩ := ob1_use hf
          refine r_callV0 C h (cw_L_rows_X4_count_9 C.hts) (rest := []) (ci := 4) (N := 5) (Cn := RX4) (T := TX4) (c_X4_count l G cI cC cZ X d0 b0 sl a0 a1 a2 a3 a4 a5 a6 a7 a8 p0 p1 h0 h1 nu va qu sc lo wt ch pl pa po pf ps ho hs (6 : Int32) r_21 hq_22) [0, 1, 2, 3, 4, 5, 6, 7, 8, 9, 10, 11, 12] rfl rfl rfl 0 rfl rfl hl.1 rfl (Nat.le_of_ble_eq_true rfl) ⟨Nat.le_of_ble_eq_true rfl, Nat.le_of_ble_eq_true rfl⟩ rfl dL_rows_109 (fun H locs h => ?_)
          refine lv_aload_n hx hb dL_rows_112 rfl (lv_at hl 2 rfl) ?_
          refine lv_iconst (v := 5) hx hb dL_rows_113 (by decide) ?_
          obtain ⟨r_23, hq_24, hf⟩ := ob1_use hf
          refine r_callV0 C h (cw_L_rows_X4_count_9 C.hts) (rest := [.int r_21]) (ci := 4) (N := 5) (Cn := RX4) (T := TX4) (c_X4_count l G cI cC cZ X d0 b0 sl a0 a1 a2 a3 a4 a5 a6 a7 a8 p0 p1 h0 h1 nu va qu sc lo wt ch pl pa po pf ps ho hs (5 : Int32) r_23 hq_24) [0, 1, 2, 3, 4, 5, 6, 7, 8, 9, 10, 11, 12] rfl rfl rfl 0 rfl rfl hl.1 rfl (Nat.le_of_ble_eq_true rfl) ⟨Nat.le_of_ble_eq_true rfl, Nat.le_of_ble_eq_true rfl⟩ rfl dL_rows_114 (fun H locs h => ?_)
          refine lv_icmp_gt (tgt := 124) hx hb dL_rows_117 (by decide) (fun hc => ?_) (fun hc => ?_)
          · replace hf := it_t hf hc
            exact cut_124 x1 x3_7 _ _ _ h (lv_sub hl [2, 3, 1] rfl) hf
          · replace hf := it_f hf hc
            refine lv_iconst (v := 1) hx hb dL_rows_120 (by decide) ?_
            refine lv_goto (tgt := 125) hx hb dL_rows_121 (by decide) ?_
            refine lv_istore (lv' := [(5, .int 1), (4, .int x4_14), (3, .int x3_7), (0, .ref d0), (1, .int x1), (2, .int x2)]) hx hb dL_rows_125 hl (by decide) rfl (fun ls hl => ?_)
            exact cut_127 x1 x3_7 1 _ _ _ h (lv_sub hl [3, 4, 2, 0] rfl) hf
  unfold fL_rows at hf
  refine lv_iconst (v := 2) hx hb dL_rows_0 (by decide) ?_
  refine lv_aload_n hx hb dL_rows_1 rfl (lv_at hl 0 rfl) ?_
  refine lv_bipush (v := 19) hx hb dL_rows_2 (by decide) ?_
  obtain ⟨r_1, hq_2, hf⟩ := ob1_use hf
  refine r_callV0 C h (cw_L_rows_X4_count_9 C.hts) (rest := [.int 2]) (ci := 4) (N := 5) (Cn := RX4) (T := TX4) (c_X4_count l G cI cC cZ X d0 b0 sl a0 a1 a2 a3 a4 a5 a6 a7 a8 p0 p1 h0 h1 nu va qu sc lo wt ch pl pa po pf ps ho hs (19 : Int32) r_1 hq_2) [0, 1, 2, 3, 4, 5, 6, 7, 8, 9, 10, 11, 12] rfl rfl rfl 0 rfl rfl hl.1 rfl (Nat.le_of_ble_eq_true rfl) ⟨Nat.le_of_ble_eq_true rfl, Nat.le_of_ble_eq_true rfl⟩ rfl dL_rows_4 (fun H locs h => ?_)
  refine lv_imul hx hb dL_rows_7 ?_
  refine lv_topi (fun x1_3 ex1_3 => ?_)
  replace hf := nm_use hf ex1_3
  refine lv_istore_n (lv' := [(1, .int x1_3), (0, .ref d0)]) hx hb dL_rows_8 rfl hl (by decide) rfl (fun ls hl => ?_)
  refine lv_aload_n hx hb dL_rows_9 rfl (lv_at hl 1 rfl) ?_
  refine lv_iconst (v := 2) hx hb dL_rows_10 (by decide) ?_
  obtain ⟨r_4, hq_5, hf⟩ := ob1_use hf
  refine r_callV0 C h (cw_L_rows_X4_count_9 C.hts) (rest := []) (ci := 4) (N := 5) (Cn := RX4) (T := TX4) (c_X4_count l G cI cC cZ X d0 b0 sl a0 a1 a2 a3 a4 a5 a6 a7 a8 p0 p1 h0 h1 nu va qu sc lo wt ch pl pa po pf ps ho hs (2 : Int32) r_4 hq_5) [0, 1, 2, 3, 4, 5, 6, 7, 8, 9, 10, 11, 12] rfl rfl rfl 0 rfl rfl hl.1 rfl (Nat.le_of_ble_eq_true rfl) ⟨Nat.le_of_ble_eq_true rfl, Nat.le_of_ble_eq_true rfl⟩ rfl dL_rows_11 (fun H locs h => ?_)
  refine lv_if_le (tgt := 26) hx hb dL_rows_14 (by decide) (fun hc => ?_) (fun hc => ?_)
  · replace hf := it_t hf hc
    refine lv_iconst (v := 0) hx hb dL_rows_26 (by decide) ?_
    refine lv_istore_n (lv' := [(2, .int 0), (1, .int x1_3), (0, .ref d0)]) hx hb dL_rows_27 rfl hl (by decide) rfl (fun ls hl => ?_)
    exact cut_28 x1_3 0 _ _ _ h (lv_sub hl [2, 1, 0] rfl) hf
  · replace hf := it_f hf hc
    refine lv_aload_n hx hb dL_rows_17 rfl (lv_at hl 1 rfl) ?_
    refine lv_iconst (v := 0) hx hb dL_rows_18 (by decide) ?_
    refine lv_iconst (v := 3) hx hb dL_rows_19 (by decide) ?_
    obtain ⟨r_6, hq_7, hf⟩ := ob1_use hf
    refine r_callV0 C h (cw_L_rows_X4_waiting_15 C.hts) (rest := []) (ci := 4) (N := 5) (Cn := RX4) (T := TX4) (c_X4_waiting l G cI cC cZ X d0 b0 sl h0 p0 a0 a1 a2 a3 a4 a5 a6 a7 a8 nu va qu sc lo wt (0 : Int32) (3 : Int32) r_6 hq_7) [0, 1, 2, 3, 4, 5, 6, 7, 8, 9] rfl rfl rfl 0 rfl rfl hl.1 rfl (Nat.le_of_ble_eq_true rfl) ⟨Nat.le_of_ble_eq_true rfl, Nat.le_of_ble_eq_true rfl⟩ rfl dL_rows_20 (fun H locs h => ?_)
    refine lv_goto (tgt := 27) hx hb dL_rows_23 (by decide) ?_
    refine lv_istore_n (lv' := [(2, .int r_6), (1, .int x1_3), (0, .ref d0)]) hx hb dL_rows_27 rfl hl (by decide) rfl (fun ls hl => ?_)
    exact cut_28 x1_3 r_6 _ _ _ h (lv_sub hl [2, 1, 0] rfl) hf
