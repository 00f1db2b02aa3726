def fL_rows_465 (nu : Nat → Int32) (qu : Nat → Int32) (sc : Nat → Int32) (lo : Nat → Int32) (pl : Int32) (hs : Int32) : Option (Int32) :=
  some (0)

def fL_rows_408 (nu : Nat → Int32) (qu : Nat → Int32) (sc : Nat → Int32) (lo : Nat → Int32) (pl : Int32) (hs : Int32) (x3 : Int32) (x5 : Int32) (x6 : Int32) (x8 : Int32) : Option (Int32) :=
  (if x5 = 0 then
  fL_rows_465 nu qu sc lo pl hs
  else
  ob1 (fX4_shown nu sc) fun r_1 =>
  (if r_1 = x6 then
  ob1 (fX4_ofMissing nu lo x8 (0 : Int32)) fun r_3 =>
  (if r_3 = (-1) then
  ob1 (fX4_count nu pl hs (15 : Int32)) fun r_5 =>
  (if r_5 = (-6) then
  (if x3 = 0 then
  some (1)
  else
  fL_rows_465 nu qu sc lo pl hs)
  else
  (if x3 = 0 then
  fL_rows_465 nu qu sc lo pl hs
  else
  some (1)))
  else
  fL_rows_465 nu qu sc lo pl hs)
  else
  fL_rows_465 nu qu sc lo pl hs))

def fL_rows_393 (nu : Nat → Int32) (qu : Nat → Int32) (sc : Nat → Int32) (lo : Nat → Int32) (pl : Int32) (hs : Int32) (x3 : Int32) (x5 : Int32) (x6 : Int32) (x8 : Int32) (x10 : Int32) : Option (Int32) :=
  ob1 (fX4_ofMissing nu lo x10 (3 : Int32)) fun r_1 =>
  nm (x10 + 1) fun x10_3 =>
  fL_rows_311 KF nu qu sc lo pl hs x3 x5 x6 x8 r_1 x10_3

def fL_rows_390 (nu : Nat → Int32) (qu : Nat → Int32) (sc : Nat → Int32) (lo : Nat → Int32) (pl : Int32) (hs : Int32) (x3 : Int32) (x6 : Int32) (x8 : Int32) (x10 : Int32) : Option (Int32) :=
  fL_rows_393 nu qu sc lo pl hs x3 0 x6 x8 x10

def fL_rows_311_b (rec : (Nat → Int32) → (Nat → Int32) → (Nat → Int32) → (Nat → Int32) → Int32 → Int32 → Int32 → Int32 → Int32 → Int32 → Int32 → Int32 → Option (Int32)) (nu : Nat → Int32) (qu : Nat → Int32) (sc : Nat → Int32) (lo : Nat → Int32) (pl : Int32) (hs : Int32) (x3 : Int32) (x5 : Int32) (x6 : Int32) (x8 : Int32) (x9 : Int32) (x10 : Int32) : Option (Int32) :=
  (if x8 ≤ x10 then
  fL_rows_408 nu qu sc lo pl hs x3 x5 x6 x8
  else
  (if x5 = 0 then
  fL_rows_408 nu qu sc lo pl hs x3 x5 x6 x8
  else
  ob1 (fX4_ofMissing nu lo x10 (3 : Int32)) fun r_1 =>
  (if x9 < r_1 then
  fL_rows_390 nu qu sc lo pl hs x3 x6 x8 x10
  else
  ob1 (fX4_ofMissing nu lo x10 (2 : Int32)) fun r_3 =>
  (if r_3 < 0 then
  fL_rows_390 nu qu sc lo pl hs x3 x6 x8 x10
  else
  ob1 (fX4_ofMissing nu lo x10 (2 : Int32)) fun r_5 =>
  (if 3 ≤ r_5 then
  fL_rows_390 nu qu sc lo pl hs x3 x6 x8 x10
  else
  ob1 (fX4_ofMissing nu lo x10 (0 : Int32)) fun r_7 =>
  ob1 (fX4_count nu pl hs (19 : Int32)) fun r_9 =>
  ob1 (fX4_ofMissing nu lo x10 (1 : Int32)) fun r_11 =>
  ob1 (fX4_count nu pl hs (1 : Int32)) fun r_13 =>
  (if r_13 ≤ ((r_7 * r_9) + r_11) then
  fL_rows_390 nu qu sc lo pl hs x3 x6 x8 x10
  else
  fL_rows_393 nu qu sc lo pl hs x3 1 x6 x8 x10))))))
def fL_rows_311 : Nat → (Nat → Int32) → (Nat → Int32) → (Nat → Int32) → (Nat → Int32) → Int32 → Int32 → Int32 → Int32 → Int32 → Int32 → Int32 → Int32 → Option (Int32)
  | 0 => fun _ _ _ _ _ _ _ _ _ _ _ _ => none
  | n + 1 => fL_rows_311_b (fL_rows_311 n)

def fL_rows_301 (nu : Nat → Int32) (qu : Nat → Int32) (sc : Nat → Int32) (lo : Nat → Int32) (pl : Int32) (hs : Int32) (x3 : Int32) (x5 : Int32) (x6 : Int32) (x8 : Int32) : Option (Int32) :=
  ob1 (fX4_count nu pl hs (0 : Int32)) fun r_1 =>
  fL_rows_311 KF nu qu sc lo pl hs x3 x5 x6 x8 r_1 0

def fL_rows_279 (nu : Nat → Int32) (qu : Nat → Int32) (sc : Nat → Int32) (lo : Nat → Int32) (pl : Int32) (hs : Int32) (x3 : Int32) (x5 : Int32) (x6 : Int32) : Option (Int32) :=
  ob1 (fX4_count nu pl hs (4 : Int32)) fun r_1 =>
  (if 8 ≤ r_1 then
  fL_rows_301 nu qu sc lo pl hs x3 x5 x6 8
  else
  ob1 (fX4_count nu pl hs (4 : Int32)) fun r_3 =>
  fL_rows_301 nu qu sc lo pl hs x3 x5 x6 r_3)

def fL_rows_273 (nu : Nat → Int32) (qu : Nat → Int32) (sc : Nat → Int32) (lo : Nat → Int32) (pl : Int32) (hs : Int32) (x1 : Int32) (x3 : Int32) (x5 : Int32) (x6 : Int32) (x7 : Int32) (x8 : Int32) : Option (Int32) :=
  nm (x8 + 1) fun x8_1 =>
  fL_rows_136 KF nu qu sc lo pl hs x1 x3 x5 x6 x7 x8_1

def fL_rows_258 (nu : Nat → Int32) (qu : Nat → Int32) (sc : Nat → Int32) (lo : Nat → Int32) (pl : Int32) (hs : Int32) (x1 : Int32) (x3 : Int32) (x5 : Int32) (x6 : Int32) (x7 : Int32) (x8 : Int32) : Option (Int32) :=
  (if x7 = 0 then
  nm ((x6 + 0)) fun x6_1 =>
  fL_rows_273 nu qu sc lo pl hs x1 x3 x5 x6_1 x7 x8
  else
  nm ((x6 + 1)) fun x6_2 =>
  fL_rows_273 nu qu sc lo pl hs x1 x3 x5 x6_2 x7 x8)

def fL_rows_255 (nu : Nat → Int32) (qu : Nat → Int32) (sc : Nat → Int32) (lo : Nat → Int32) (pl : Int32) (hs : Int32) (x1 : Int32) (x3 : Int32) (x5 : Int32) (x6 : Int32) (x8 : Int32) : Option (Int32) :=
  fL_rows_258 nu qu sc lo pl hs x1 x3 x5 x6 0 x8

def fL_rows_241 (nu : Nat → Int32) (qu : Nat → Int32) (sc : Nat → Int32) (lo : Nat → Int32) (pl : Int32) (hs : Int32) (x1 : Int32) (x3 : Int32) (x5 : Int32) (x6 : Int32) (x7 : Int32) (x8 : Int32) (x9 : Int32) : Option (Int32) :=
  (if x7 = 0 then
  fL_rows_255 nu qu sc lo pl hs x1 x3 x5 x6 x8
  else
  (if x9 = 0 then
  fL_rows_255 nu qu sc lo pl hs x1 x3 x5 x6 x8
  else
  fL_rows_258 nu qu sc lo pl hs x1 x3 x5 x6 1 x8))

def fL_rows_238 (nu : Nat → Int32) (qu : Nat → Int32) (sc : Nat → Int32) (lo : Nat → Int32) (pl : Int32) (hs : Int32) (x1 : Int32) (x3 : Int32) (x6 : Int32) (x7 : Int32) (x8 : Int32) (x9 : Int32) : Option (Int32) :=
  fL_rows_241 nu qu sc lo pl hs x1 x3 0 x6 x7 x8 x9

def fL_rows_234 (nu : Nat → Int32) (qu : Nat → Int32) (sc : Nat → Int32) (lo : Nat → Int32) (pl : Int32) (hs : Int32) (x1 : Int32) (x3 : Int32) (x6 : Int32) (x7 : Int32) (x8 : Int32) (x9 : Int32) : Option (Int32) :=
  fL_rows_241 nu qu sc lo pl hs x1 x3 1 x6 x7 x8 x9

def fL_rows_219 (nu : Nat → Int32) (qu : Nat → Int32) (sc : Nat → Int32) (lo : Nat → Int32) (pl : Int32) (hs : Int32) (x1 : Int32) (x3 : Int32) (x6 : Int32) (x7 : Int32) (x8 : Int32) (x9 : Int32) : Option (Int32) :=
  ob1 (fX4_count nu pl hs (5 : Int32)) fun r_1 =>
  (if x8 < r_1 then
  fL_rows_234 nu qu sc lo pl hs x1 x3 x6 x7 x8 x9
  else
  (if x9 = 0 then
  fL_rows_234 nu qu sc lo pl hs x1 x3 x6 x7 x8 x9
  else
  fL_rows_238 nu qu sc lo pl hs x1 x3 x6 x7 x8 x9))

def fL_rows_199 (nu : Nat → Int32) (qu : Nat → Int32) (sc : Nat → Int32) (lo : Nat → Int32) (pl : Int32) (hs : Int32) (x1 : Int32) (x3 : Int32) (x6 : Int32) (x7 : Int32) (x8 : Int32) (x9 : Int32) : Option (Int32) :=
  ob1 (fX4_row nu sc x8 (2 : Int32)) fun r_1 =>
  (if r_1 < 0 then
  (if x9 = 0 then
  fL_rows_219 nu qu sc lo pl hs x1 x3 x6 x7 x8 x9
  else
  fL_rows_238 nu qu sc lo pl hs x1 x3 x6 x7 x8 x9)
  else
  (if x9 = 1 then
  fL_rows_219 nu qu sc lo pl hs x1 x3 x6 x7 x8 x9
  else
  fL_rows_238 nu qu sc lo pl hs x1 x3 x6 x7 x8 x9))

def fL_rows_164 (nu : Nat → Int32) (qu : Nat → Int32) (sc : Nat → Int32) (lo : Nat → Int32) (pl : Int32) (hs : Int32) (x1 : Int32) (x3 : Int32) (x6 : Int32) (x7 : Int32) (x8 : Int32) (x9 : Int32) : Option (Int32) :=
  ob1 (fX4_row nu sc x8 (0 : Int32)) fun r_1 =>
  (if r_1 = (-6) then
  ob1 (fX4_count nu pl hs (5 : Int32)) fun r_5 =>
  (if x8 < r_5 then
  fL_rows_238 nu qu sc lo pl hs x1 x3 x6 x7 x8 x9
  else
  fL_rows_199 nu qu sc lo pl hs x1 x3 x6 x7 x8 x9)
  else
  ob1 (fX4_count nu pl hs (5 : Int32)) fun r_3 =>
  (if x8 < r_3 then
  fL_rows_199 nu qu sc lo pl hs x1 x3 x6 x7 x8 x9
  else
  fL_rows_238 nu qu sc lo pl hs x1 x3 x6 x7 x8 x9))

def fL_rows_136_b (rec : (Nat → Int32) → (Nat → Int32) → (Nat → Int32) → (Nat → Int32) → Int32 → Int32 → Int32 → Int32 → Int32 → Int32 → Int32 → Int32 → Option (Int32)) (nu : Nat → Int32) (qu : Nat → Int32) (sc : Nat → Int32) (lo : Nat → Int32) (pl : Int32) (hs : Int32) (x1 : Int32) (x3 : Int32) (x5 : Int32) (x6 : Int32) (x7 : Int32) (x8 : Int32) : Option (Int32) :=
  (if x1 ≤ x8 then
  fL_rows_279 nu qu sc lo pl hs x3 x5 x6
  else
  (if x5 = 0 then
  fL_rows_279 nu qu sc lo pl hs x3 x5 x6
  else
  ob1 (fX4_row nu sc x8 (1 : Int32)) fun r_1 =>
  (if r_1 < 0 then
  fL_rows_164 nu qu sc lo pl hs x1 x3 x6 x7 x8 0
  else
  fL_rows_164 nu qu sc lo pl hs x1 x3 x6 x7 x8 1)))
def fL_rows_136 : Nat → (Nat → Int32) → (Nat → Int32) → (Nat → Int32) → (Nat → Int32) → Int32 → Int32 → Int32 → Int32 → Int32 → Int32 → Int32 → Int32 → Option (Int32)
  | 0 => fun _ _ _ _ _ _ _ _ _ _ _ _ => none
  | n + 1 => fL_rows_136_b (fL_rows_136 n)

def fL_rows_127 (nu : Nat → Int32) (qu : Nat → Int32) (sc : Nat → Int32) (lo : Nat → Int32) (pl : Int32) (hs : Int32) (x1 : Int32) (x3 : Int32) (x5 : Int32) : Option (Int32) :=
  fL_rows_136 KF nu qu sc lo pl hs x1 x3 x5 0 1 0

def fL_rows_124 (nu : Nat → Int32) (qu : Nat → Int32) (sc : Nat → Int32) (lo : Nat → Int32) (pl : Int32) (hs : Int32) (x1 : Int32) (x3 : Int32) : Option (Int32) :=
  fL_rows_127 nu qu sc lo pl hs x1 x3 0

def fL_rows_28 (nu : Nat → Int32) (qu : Nat → Int32) (sc : Nat → Int32) (lo : Nat → Int32) (pl : Int32) (hs : Int32) (x1 : Int32) (x2 : Int32) : Option (Int32) :=
  ob1 (fX4_count nu pl hs (12 : Int32)) fun r_1 =>
  ob1 (fX4_count nu pl hs (13 : Int32)) fun r_3 =>
  ob1 (fX4_count nu pl hs (14 : Int32)) fun r_5 =>
  nm (((r_1 + r_3) + r_5)) fun x3_7 =>
  ob1 (fX4_count nu pl hs (5 : Int32)) fun r_8 =>
  ob1 (fX4_count nu pl hs (3 : Int32)) fun r_10 =>
  ob1 (fX4_count nu pl hs (6 : Int32)) fun r_12 =>
  nm ((((r_8 - (2 * r_10)) - x2) - r_12)) fun x4_14 =>
  (if x4_14 < 0 then
  fL_rows_124 nu qu sc lo pl hs x1 x3_7
  else
  ob1 (fX4_count nu pl hs (4 : Int32)) fun r_15 =>
  (if r_15 < x4_14 then
  fL_rows_124 nu qu sc lo pl hs x1 x3_7
  else
  ob1 (fX4_count nu pl hs (5 : Int32)) fun r_17 =>
  ob1 (fX4_count nu pl hs (7 : Int32)) fun r_19 =>
  (if r_17 = ((x3_7 * x1) + r_19) then
  ob1 (fX4_count nu pl hs (6 : Int32)) fun r_21 =>
  ob1 (fX4_count nu pl hs (5 : Int32)) fun r_23 =>
  (if r_23 < r_21 then
  fL_rows_124 nu qu sc lo pl hs x1 x3_7
  else
  fL_rows_127 nu qu sc lo pl hs x1 x3_7 1)
  else
  fL_rows_124 nu qu sc lo pl hs x1 x3_7)))

/-- the mirror of L_rows -/
def fL_rows (nu : Nat → Int32) (qu : Nat → Int32) (sc : Nat → Int32) (lo : Nat → Int32) (pl : Int32) (hs : Int32) : Option (Int32) :=
  ob1 (fX4_count nu pl hs (19 : Int32)) fun r_1 =>
  nm ((2 * r_1)) fun x1_3 =>
  ob1 (fX4_count nu pl hs (2 : Int32)) fun r_4 =>
  (if r_4 ≤ 0 then
  fL_rows_28 nu qu sc lo pl hs x1_3 0
  else
  ob1 (fX4_waiting nu qu (0 : Int32) (3 : Int32)) fun r_6 =>
  fL_rows_28 nu qu sc lo pl hs x1_3 r_6)

def rm_L_rows : Room := { frames := 4, cells := 0, slots := 0, locals := 85 }
set_option maxRecDepth 20000 in
theorem cw_L_rows_X4_count_9 {s : State} {args : Array Value} (hts : ∀ w ∈ wsL_rows, w.before args s = true) : CallW rm_L_rows s args RL RX4 9 yX4_count cX4_count 2 (some .int) wsX4_count rm_X4_count 0 0 1 :=
  cwV 1 hts gL_rows_X4_count rfl rfl rfl (by decide +kernel) ⟨Nat.le_of_ble_eq_true rfl, Nat.le_of_ble_eq_true rfl⟩
set_option maxRecDepth 20000 in
theorem cw_L_rows_X4_waiting_15 {s : State} {args : Array Value} (hts : ∀ w ∈ wsL_rows, w.before args s = true) : CallW rm_L_rows s args RL RX4 15 yX4_waiting cX4_waiting 3 (some .int) wsX4_waiting rm_X4_waiting 0 0 2 :=
  cwV 2 hts gL_rows_X4_waiting rfl rfl rfl (by decide +kernel) ⟨Nat.le_of_ble_eq_true rfl, Nat.le_of_ble_eq_true rfl⟩
set_option maxRecDepth 20000 in
theorem cw_L_rows_X4_shown_25 {s : State} {args : Array Value} (hts : ∀ w ∈ wsL_rows, w.before args s = true) : CallW rm_L_rows s args RL RX4 25 yX4_shown cX4_shown 3 (some .int) wsX4_shown rm_X4_shown 0 0 0 :=
  cwV 0 hts gL_rows_X4_shown rfl rfl rfl (by decide +kernel) ⟨Nat.le_of_ble_eq_true rfl, Nat.le_of_ble_eq_true rfl⟩
set_option maxRecDepth 20000 in
theorem cw_L_rows_X4_ofMissing_22 {s : State} {args : Array Value} (hts : ∀ w ∈ wsL_rows, w.before args s = true) : CallW rm_L_rows s args RL RX4 22 yX4_ofMissing cX4_ofMissing 3 (some .int) wsX4_ofMissing rm_X4_ofMissing 0 0 2 :=
  cwV 2 hts gL_rows_X4_ofMissing rfl rfl rfl (by decide +kernel) ⟨Nat.le_of_ble_eq_true rfl, Nat.le_of_ble_eq_true rfl⟩
set_option maxRecDepth 20000 in
theorem cw_L_rows_X4_row_19 {s : State} {args : Array Value} (hts : ∀ w ∈ wsL_rows, w.before args s = true) : CallW rm_L_rows s args RL RX4 19 yX4_row cX4_row 3 (some .int) wsX4_row rm_X4_row 0 0 2 :=
  cwV 2 hts gL_rows_X4_row rfl rfl rfl (by decide +kernel) ⟨Nat.le_of_ble_eq_true rfl, Nat.le_of_ble_eq_true rfl⟩
set_option maxHeartbeats 4000000 in
set_option maxRecDepth 100000 in
theorem c_L_rows (l : Launch) (G : va_G) (cI cC cZ : ClassId) (X : List (ClassId × FieldType)) (d0 b0 sl a0 a1 a2 a3 a4 a5 a6 a7 a8 p0 p1 h0 h1 : Nat) (nu : Nat → Int32) (va : Nat → Int32) (qu : Nat → Int32) (sc : Nat → Int32) (lo : Nat → Int32) (wt : Int32) (ch : Nat → Int32) (pl : Int32) (pa : Int32) (po : Int32) (pf : Int32) (ps : Int32) (ho : Int32) (hs : Int32) (rv : Int32) (hf : fL_rows nu qu sc lo pl hs = some (rv)) : CT l yL_rows wsL_rows rm_L_rows G (TY cI cC cZ X) [.ref d0] (wLDc cI cC d0 b0 sl a0 a1 a2 a3 a4 a5 a6 a7 a8 p0 p1 h0 h1 nu va qu sc lo wt ch pl pa po pf ps ho hs) (some (.int rv)) (wLDc cI cC d0 b0 sl a0 a1 a2 a3 a4 a5 a6 a7 a8 p0 p1 h0 h1 nu va qu sc lo wt ch pl pa po pf ps ho hs) := by
  refine CT.of (cc := cL_rows) (maxL := 11) (ret := (some .boolean)) RL rfl (by decide) rfl (Nat.le_of_ble_eq_true rfl) ?_
  intro p e s m args below meth c A ls C hr hlocks hnm h hl
  have hx := C.hx
  have hb := C.hb
  have hl : lv_has ls 11 [(0, .ref d0)] := hl
  have cut_465 : ∀ (H : Heap) (locs : List Loc) (ls : Array Slot), Hx s G A (wLDc cI cC d0 b0 sl a0 a1 a2 a3 a4 a5 a6 a7 a8 p0 p1 h0 h1 nu va qu sc lo wt ch pl pa po pf ps ho hs) H locs → lv_has ls 11 [] → fL_rows_465 nu qu sc lo pl hs = some (rv) → W p l e rm_L_rows s m args below meth c H locs 0 0 (MQ below (Qx G (some (.int rv)) (wLDc cI cC d0 b0 sl a0 a1 a2 a3 a4 a5 a6 a7 a8 p0 p1 h0 h1 nu va qu sc lo wt ch pl pa po pf ps ho hs) A) args s 0 0 A) (F0 m 465 ls []) := by
    intro H locs ls h hl hf
    unfold fL_rows_465 at hf
    refine lv_iconst (v := 0) hx hb dL_rows_465 (by decide) ?_
    cases hf
    exact r_zret C h hr hlocks rfl dL_rows_466
  have cut_408 : ∀ (x3 : Int32) (x5 : Int32) (x6 : Int32) (x8 : Int32) (H : Heap) (locs : List Loc) (ls : Array Slot), Hx s G A (wLDc cI cC d0 b0 sl a0 a1 a2 a3 a4 a5 a6 a7 a8 p0 p1 h0 h1 nu va qu sc lo wt ch pl pa po pf ps ho hs) H locs → lv_has ls 11 [(0, .ref d0), (3, .int x3), (5, .int x5), (6, .int x6), (8, .int x8)] → fL_rows_408 nu qu sc lo pl hs x3 x5 x6 x8 = some (rv) → W p l e rm_L_rows s m args below meth c H locs 0 0 (MQ below (Qx G (some (.int rv)) (wLDc cI cC d0 b0 sl a0 a1 a2 a3 a4 a5 a6 a7 a8 p0 p1 h0 h1 nu va qu sc lo wt ch pl pa po pf ps ho hs) A) args s 0 0 A) (F0 m 408 ls []) := by
    intro x3 x5 x6 x8 H locs ls h hl hf
    unfold fL_rows_408 at hf
    refine lv_iload hx hb dL_rows_408 (lv_at hl 2 rfl) ?_
    refine lv_if_eq (tgt := 465) hx hb dL_rows_410 (by decide) (fun hc => ?_) (fun hc => ?_)
    · replace hf := it_t hf hc
      exact cut_465 _ _ _ h (lv_sub hl [] rfl) hf
    · replace hf := it_f hf hc
      refine lv_aload_n hx hb dL_rows_413 rfl (lv_at hl 0 rfl) ?_
      obtain ⟨r_1, hq_2, hf⟩ := ob1_use hf
      refine r_callV0 C h (cw_L_rows_X4_shown_25 C.hts) (rest := []) (ci := 4) (N := 5) (Cn := RX4) (T := TX4) (c_X4_shown l G cI cC cZ X d0 b0 sl h0 p0 a0 a1 a2 a3 a4 a5 a6 a7 a8 nu va qu sc lo wt r_1 hq_2) [0, 1, 2, 3, 4, 5, 6, 7, 8, 9] rfl rfl rfl 0 rfl rfl hl.1 rfl (Nat.le_of_ble_eq_true rfl) ⟨Nat.le_of_ble_eq_true rfl, Nat.le_of_ble_eq_true rfl⟩ rfl dL_rows_414 (fun H locs h => ?_)
      refine lv_iload hx hb dL_rows_417 (lv_at hl 3 rfl) ?_
      refine lv_icmp_ne (tgt := 465) hx hb dL_rows_419 (by decide) (fun hc => ?_) (fun hc => ?_)
      · replace hf := it_f hf hc
        exact cut_465 _ _ _ h (lv_sub hl [] rfl) hf
      · replace hf := it_t hf hc
        refine lv_aload_n hx hb dL_rows_422 rfl (lv_at hl 0 rfl) ?_
        refine lv_iload hx hb dL_rows_423 (lv_at hl 4 rfl) ?_
        refine lv_iconst (v := 0) hx hb dL_rows_425 (by decide) ?_
        obtain ⟨r_3, hq_4, hf⟩ := ob1_use hf
        refine r_callV0 C h (cw_L_rows_X4_ofMissing_22 C.hts) (rest := []) (ci := 4) (N := 5) (Cn := RX4) (T := TX4) (c_X4_ofMissing l G cI cC cZ X d0 b0 sl h0 p0 a0 a1 a2 a3 a4 a5 a6 a7 a8 nu va qu sc lo wt x8 (0 : Int32) r_3 hq_4) [0, 1, 2, 3, 4, 5, 6, 7, 8, 9] rfl rfl rfl 0 rfl rfl hl.1 rfl (Nat.le_of_ble_eq_true rfl) ⟨Nat.le_of_ble_eq_true rfl, Nat.le_of_ble_eq_true rfl⟩ rfl dL_rows_426 (fun H locs h => ?_)
        refine lv_iconst (v := (-1)) hx hb dL_rows_429 (by decide) ?_
        refine lv_icmp_ne (tgt := 465) hx hb dL_rows_430 (by decide) (fun hc => ?_) (fun hc => ?_)
        · replace hf := it_f hf hc
          exact cut_465 _ _ _ h (lv_sub hl [] rfl) hf
        · replace hf := it_t hf hc
          refine lv_aload_n hx hb dL_rows_433 rfl (lv_at hl 0 rfl) ?_
          refine lv_bipush (v := 15) hx hb dL_rows_434 (by decide) ?_
          obtain ⟨r_5, hq_6, hf⟩ := ob1_use hf
          refine r_callV0 C h (cw_L_rows_X4_count_9 C.hts) (rest := []) (ci := 4) (N := 5) (Cn := RX4) (T := TX4) (c_X4_count l G cI cC cZ X d0 b0 sl a0 a1 a2 a3 a4 a5 a6 a7 a8 p0 p1 h0 h1 nu va qu sc lo wt ch pl pa po pf ps ho hs (15 : Int32) r_5 hq_6) [0, 1, 2, 3, 4, 5, 6, 7, 8, 9, 10, 11, 12] rfl rfl rfl 0 rfl rfl hl.1 rfl (Nat.le_of_ble_eq_true rfl) ⟨Nat.le_of_ble_eq_true rfl, Nat.le_of_ble_eq_true rfl⟩ rfl dL_rows_436 (fun H locs h => ?_)
          refine lv_bipush (v := (-6)) hx hb dL_rows_439 (by decide) ?_
          refine lv_icmp_ne (tgt := 448) hx hb dL_rows_441 (by decide) (fun hc => ?_) (fun hc => ?_)
          · replace hf := it_f hf hc
            refine lv_iconst (v := 0) hx hb dL_rows_448 (by decide) ?_
            refine lv_iload_n hx hb dL_rows_449 rfl (lv_at hl 1 rfl) ?_
            refine lv_if_ne (tgt := 457) hx hb dL_rows_450 (by decide) (fun hc => ?_) (fun hc => ?_)
            · replace hf := it_f hf hc
              refine lv_iconst (v := 0) hx hb dL_rows_457 (by decide) ?_
              refine lv_icmp_ne (tgt := 465) hx hb dL_rows_458 (by decide) (fun hc => absurd hc (by decide)) (fun _ => ?_)
              refine lv_iconst (v := 1) hx hb dL_rows_461 (by decide) ?_
              refine lv_goto (tgt := 466) hx hb dL_rows_462 (by decide) ?_
              cases hf
              exact r_zret C h hr hlocks rfl dL_rows_466
            · replace hf := it_t hf hc
              refine lv_iconst (v := 1) hx hb dL_rows_453 (by decide) ?_
              refine lv_goto (tgt := 458) hx hb dL_rows_454 (by decide) ?_
              refine lv_icmp_ne (tgt := 465) hx hb dL_rows_458 (by decide) (fun _ => ?_) (fun hc => absurd hc (by decide))
              exact cut_465 _ _ _ h (lv_sub hl [] rfl) hf
          · replace hf := it_t hf hc
            refine lv_iconst (v := 1) hx hb dL_rows_444 (by decide) ?_
            refine lv_goto (tgt := 449) hx hb dL_rows_445 (by decide) ?_
            refine lv_iload_n hx hb dL_rows_449 rfl (lv_at hl 1 rfl) ?_
            refine lv_if_ne (tgt := 457) hx hb dL_rows_450 (by decide) (fun hc => ?_) (fun hc => ?_)
            · replace hf := it_f hf hc
              refine lv_iconst (v := 0) hx hb dL_rows_457 (by decide) ?_
              refine lv_icmp_ne (tgt := 465) hx hb dL_rows_458 (by decide) (fun _ => ?_) (fun hc => absurd hc (by decide))
              exact cut_465 _ _ _ h (lv_sub hl [] rfl) hf
            · replace hf := it_t hf hc
              refine lv_iconst (v := 1) hx hb dL_rows_453 (by decide) ?_
              refine lv_goto (tgt := 458) hx hb dL_rows_454 (by decide) ?_
              refine lv_icmp_ne (tgt := 465) hx hb dL_rows_458 (by decide) (fun hc => absurd hc (by decide)) (fun _ => ?_)
              refine lv_iconst (v := 1) hx hb dL_rows_461 (by decide) ?_
              refine lv_goto (tgt := 466) hx hb dL_rows_462 (by decide) ?_
              cases hf
              exact r_zret C h hr hlocks rfl dL_rows_466
  have cut_393 : ∀ (x3 : Int32) (x5 : Int32) (x6 : Int32) (x8 : Int32) (x10 : Int32) (H : Heap) (locs : List Loc) (ls : Array Slot), Hx s G A (wLDc cI cC d0 b0 sl a0 a1 a2 a3 a4 a5 a6 a7 a8 p0 p1 h0 h1 nu va qu sc lo wt ch pl pa po pf ps ho hs) H locs → lv_has ls 11 [(0, .ref d0), (3, .int x3), (5, .int x5), (6, .int x6), (8, .int x8), (10, .int x10)] → fL_rows_393 nu qu sc lo pl hs x3 x5 x6 x8 x10 = some (rv) → W p l e rm_L_rows s m args below meth c H locs 0 0 (MQ below (Qx G (some (.int rv)) (wLDc cI cC d0 b0 sl a0 a1 a2 a3 a4 a5 a6 a7 a8 p0 p1 h0 h1 nu va qu sc lo wt ch pl pa po pf ps ho hs) A) args s 0 0 A) (F0 m 393 ls []) := by
    intro x3 x5 x6 x8 x10 H locs ls h hl hf
    unfold fL_rows_393 at hf
    refine lv_aload_n hx hb dL_rows_393 rfl (lv_at hl 0 rfl) ?_
    refine lv_iload hx hb dL_rows_394 (lv_at hl 5 rfl) ?_
    refine lv_iconst (v := 3) hx hb dL_rows_396 (by decide) ?_
    obtain ⟨r_1, hq_2, hf⟩ := ob1_use hf
    refine r_callV0 C h (cw_L_rows_X4_ofMissing_22 C.hts) (rest := []) (ci := 4) (N := 5) (Cn := RX4) (T := TX4) (c_X4_ofMissing l G cI cC cZ X d0 b0 sl h0 p0 a0 a1 a2 a3 a4 a5 a6 a7 a8 nu va qu sc lo wt x10 (3 : Int32) r_1 hq_2) [0, 1, 2, 3, 4, 5, 6, 7, 8, 9] rfl rfl rfl 0 rfl rfl hl.1 rfl (Nat.le_of_ble_eq_true rfl) ⟨Nat.le_of_ble_eq_true rfl, Nat.le_of_ble_eq_true rfl⟩ rfl dL_rows_397 (fun H locs h => ?_)
    refine lv_istore (lv' := [(9, .int r_1), (0, .ref d0), (3, .int x3), (5, .int x5), (6, .int x6), (8, .int x8), (10, .int x10)]) hx hb dL_rows_400 hl (by decide) rfl (fun ls hl => ?_)
    obtain ⟨x10_3, ex10_3⟩ : ∃ y : Int32, y = x10 + 1 := ⟨_, rfl⟩
    replace hf := nm_use hf ex10_3
    refine lv_iinc (v := x10_3) (lv' := [(10, .int x10_3), (9, .int r_1), (0, .ref d0), (3, .int x3), (5, .int x5), (6, .int x6), (8, .int x8)]) hx hb dL_rows_402 hl (k := 6) rfl (by rw [ex10_3]; rfl) (by decide) rfl (fun ls hl => ?_)
    refine lv_goto (tgt := 311) hx hb dL_rows_405 (by decide) ?_
    exact cut_311 KF x3 x5 x6 x8 r_1 x10_3 _ _ _ h (lv_sub hl [2, 3, 4, 5, 6, 1, 0] rfl) hf
  have cut_390 : ∀ (x3 : Int32) (x6 : Int32) (x8 : Int32) (x10 : Int32) (H : Heap) (locs : List Loc) (ls : Array Slot), Hx s G A (wLDc cI cC d0 b0 sl a0 a1 a2 a3 a4 a5 a6 a7 a8 p0 p1 h0 h1 nu va qu sc lo wt ch pl pa po pf ps ho hs) H locs → lv_has ls 11 [(0, .ref d0), (3, .int x3), (6, .int x6), (8, .int x8), (10, .int x10)] → fL_rows_390 nu qu sc lo pl hs x3 x6 x8 x10 = some (rv) → W p l e rm_L_rows s m args below meth c H locs 0 0 (MQ below (Qx G (some (.int rv)) (wLDc cI cC d0 b0 sl a0 a1 a2 a3 a4 a5 a6 a7 a8 p0 p1 h0 h1 nu va qu sc lo wt ch pl pa po pf ps ho hs) A) args s 0 0 A) (F0 m 390 ls []) := by
    intro x3 x6 x8 x10 H locs ls h hl hf
    unfold fL_rows_390 at hf
    refine lv_iconst (v := 0) hx hb dL_rows_390 (by decide) ?_
    refine lv_istore (lv' := [(5, .int 0), (0, .ref d0), (3, .int x3), (6, .int x6), (8, .int x8), (10, .int x10)]) hx hb dL_rows_391 hl (by decide) rfl (fun ls hl => ?_)
    exact cut_393 x3 0 x6 x8 x10 _ _ _ h (lv_sub hl [1, 2, 0, 3, 4, 5] rfl) hf
  have cut_311 : ∀ (n : Nat) (x3 : Int32) (x5 : Int32) (x6 : Int32) (x8 : Int32) (x9 : Int32) (x10 : Int32) (H : Heap) (locs : List Loc) (ls : Array Slot), Hx s G A (wLDc cI cC d0 b0 sl a0 a1 a2 a3 a4 a5 a6 a7 a8 p0 p1 h0 h1 nu va qu sc lo wt ch pl pa po pf ps ho hs) H locs → lv_has ls 11 [(0, .ref d0), (3, .int x3), (5, .int x5), (6, .int x6), (8, .int x8), (9, .int x9), (10, .int x10)] → fL_rows_311 n nu qu sc lo pl hs x3 x5 x6 x8 x9 x10 = some (rv) → W p l e rm_L_rows s m args below meth c H locs 0 0 (MQ below (Qx G (some (.int rv)) (wLDc cI cC d0 b0 sl a0 a1 a2 a3 a4 a5 a6 a7 a8 p0 p1 h0 h1 nu va qu sc lo wt ch pl pa po pf ps ho hs) A) args s 0 0 A) (F0 m 311 ls []) := by
    intro n
    induction n with
    | zero =>
      intro x3 x5 x6 x8 x9 x10 H locs ls h hl hf
      exact (nn_some _ hf).elim
    | succ n ih =>
      intro x3 x5 x6 x8 x9 x10 H locs ls h hl hf
      have hf : fL_rows_311_b (fL_rows_311 n) nu qu sc lo pl hs x3 x5 x6 x8 x9 x10 = some (rv) := hf
      unfold fL_rows_311_b at hf
      refine lv_iload hx hb dL_rows_311 (lv_at hl 6 rfl) ?_
      refine lv_iload hx hb dL_rows_313 (lv_at hl 4 rfl) ?_
      refine lv_icmp_ge (tgt := 408) hx hb dL_rows_315 (by decide) (fun hc => ?_) (fun hc => ?_)
      · replace hf := it_t hf hc
        exact cut_408 x3 x5 x6 x8 _ _ _ h (lv_sub hl [0, 1, 2, 3, 4] rfl) hf
      · replace hf := it_f hf hc
        refine lv_iload hx hb dL_rows_318 (lv_at hl 2 rfl) ?_
        refine lv_if_eq (tgt := 408) hx hb dL_rows_320 (by decide) (fun hc => ?_) (fun hc => ?_)
        · replace hf := it_t hf hc
          exact cut_408 x3 x5 x6 x8 _ _ _ h (lv_sub hl [0, 1, 2, 3, 4] rfl) hf
        · replace hf := it_f hf hc
          refine lv_aload_n hx hb dL_rows_323 rfl (lv_at hl 0 rfl) ?_
          refine lv_iload hx hb dL_rows_324 (lv_at hl 6 rfl) ?_
          refine lv_iconst (v := 3) hx hb dL_rows_326 (by decide) ?_
          obtain ⟨r_1, hq_2, hf⟩ := ob1_use hf
          refine r_callV0 C h (cw_L_rows_X4_ofMissing_22 C.hts) (rest := []) (ci := 4) (N := 5) (Cn := RX4) (T := TX4) (c_X4_ofMissing l G cI cC cZ X d0 b0 sl h0 p0 a0 a1 a2 a3 a4 a5 a6 a7 a8 nu va qu sc lo wt x10 (3 : Int32) r_1 hq_2) [0, 1, 2, 3, 4, 5, 6, 7, 8, 9] rfl rfl rfl 0 rfl rfl hl.1 rfl (Nat.le_of_ble_eq_true rfl) ⟨Nat.le_of_ble_eq_true rfl, Nat.le_of_ble_eq_true rfl⟩ rfl dL_rows_327 (fun H locs h => ?_)
          refine lv_iload hx hb dL_rows_330 (lv_at hl 5 rfl) ?_
          refine lv_icmp_gt (tgt := 390) hx hb dL_rows_332 (by decide) (fun hc => ?_) (fun hc => ?_)
          · replace hf := it_t hf hc
            exact cut_390 x3 x6 x8 x10 _ _ _ h (lv_sub hl [0, 1, 3, 4, 6] rfl) hf
          · replace hf := it_f hf hc
            refine lv_aload_n hx hb dL_rows_335 rfl (lv_at hl 0 rfl) ?_
            refine lv_iload hx hb dL_rows_336 (lv_at hl 6 rfl) ?_
            refine lv_iconst (v := 2) hx hb dL_rows_338 (by decide) ?_
            obtain ⟨r_3, hq_4, hf⟩ := ob1_use hf
            refine r_callV0 C h (cw_L_rows_X4_ofMissing_22 C.hts) (rest := []) (ci := 4) (N := 5) (Cn := RX4) (T := TX4) (c_X4_ofMissing l G cI cC cZ X d0 b0 sl h0 p0 a0 a1 a2 a3 a4 a5 a6 a7 a8 nu va qu sc lo wt x10 (2 : Int32) r_3 hq_4) [0, 1, 2, 3, 4, 5, 6, 7, 8, 9] rfl rfl rfl 0 rfl rfl hl.1 rfl (Nat.le_of_ble_eq_true rfl) ⟨Nat.le_of_ble_eq_true rfl, Nat.le_of_ble_eq_true rfl⟩ rfl dL_rows_339 (fun H locs h => ?_)
            refine lv_if_lt (tgt := 390) hx hb dL_rows_342 (by decide) (fun hc => ?_) (fun hc => ?_)
            · replace hf := it_t hf hc
              exact cut_390 x3 x6 x8 x10 _ _ _ h (lv_sub hl [0, 1, 3, 4, 6] rfl) hf
            · replace hf := it_f hf hc
              refine lv_aload_n hx hb dL_rows_345 rfl (lv_at hl 0 rfl) ?_
              refine lv_iload hx hb dL_rows_346 (lv_at hl 6 rfl) ?_
              refine lv_iconst (v := 2) hx hb dL_rows_348 (by decide) ?_
              obtain ⟨r_5, hq_6, hf⟩ := ob1_use hf
              refine r_callV0 C h (cw_L_rows_X4_ofMissing_22 C.hts) (rest := []) (ci := 4) (N := 5) (Cn := RX4) (T := TX4) (c_X4_ofMissing l G cI cC cZ X d0 b0 sl h0 p0 a0 a1 a2 a3 a4 a5 a6 a7 a8 nu va qu sc lo wt x10 (2 : Int32) r_5 hq_6) [0, 1, 2, 3, 4, 5, 6, 7, 8, 9] rfl rfl rfl 0 rfl rfl hl.1 rfl (Nat.le_of_ble_eq_true rfl) ⟨Nat.le_of_ble_eq_true rfl, Nat.le_of_ble_eq_true rfl⟩ rfl dL_rows_349 (fun H locs h => ?_)
              refine lv_iconst (v := 3) hx hb dL_rows_352 (by decide) ?_
              refine lv_icmp_ge (tgt := 390) hx hb dL_rows_353 (by decide) (fun hc => ?_) (fun hc => ?_)
              · replace hf := it_t hf hc
                exact cut_390 x3 x6 x8 x10 _ _ _ h (lv_sub hl [0, 1, 3, 4, 6] rfl) hf
              · replace hf := it_f hf hc
                refine lv_aload_n hx hb dL_rows_356 rfl (lv_at hl 0 rfl) ?_
                refine lv_iload hx hb dL_rows_357 (lv_at hl 6 rfl) ?_
                refine lv_iconst (v := 0) hx hb dL_rows_359 (by decide) ?_
                obtain ⟨r_7, hq_8, hf⟩ := ob1_use hf
                refine r_callV0 C h (cw_L_rows_X4_ofMissing_22 C.hts) (rest := []) (ci := 4) (N := 5) (Cn := RX4) (T := TX4) (c_X4_ofMissing l G cI cC cZ X d0 b0 sl h0 p0 a0 a1 a2 a3 a4 a5 a6 a7 a8 nu va qu sc lo wt x10 (0 : Int32) r_7 hq_8) [0, 1, 2, 3, 4, 5, 6, 7, 8, 9] rfl rfl rfl 0 rfl rfl hl.1 rfl (Nat.le_of_ble_eq_true rfl) ⟨Nat.le_of_ble_eq_true rfl, Nat.le_of_ble_eq_true rfl⟩ rfl dL_rows_360 (fun H locs h => ?_)
                refine lv_aload_n hx hb dL_rows_363 rfl (lv_at hl 0 rfl) ?_
                refine lv_bipush (v := 19) hx hb dL_rows_364 (by decide) ?_
                obtain ⟨r_9, hq_10, hf⟩ := ob1_use hf
                refine r_callV0 C h (cw_L_rows_X4_count_9 C.hts) (rest := [.int r_7]) (ci := 4) (N := 5) (Cn := RX4) (T := TX4) (c_X4_count l G cI cC cZ X d0 b0 sl a0 a1 a2 a3 a4 a5 a6 a7 a8 p0 p1 h0 h1 nu va qu sc lo wt ch pl pa po pf ps ho hs (19 : Int32) r_9 hq_10) [0, 1, 2, 3, 4, 5, 6, 7, 8, 9, 10, 11, 12] rfl rfl rfl 0 rfl rfl hl.1 rfl (Nat.le_of_ble_eq_true rfl) ⟨Nat.le_of_ble_eq_true rfl, Nat.le_of_ble_eq_true rfl⟩ rfl dL_rows_366 (fun H locs h => ?_)
                refine lv_imul hx hb dL_rows_369 ?_
                refine lv_aload_n hx hb dL_rows_370 rfl (lv_at hl 0 rfl) ?_
                refine lv_iload hx hb dL_rows_371 (lv_at hl 6 rfl) ?_
                refine lv_iconst (v := 1) hx hb dL_rows_373 (by decide) ?_
                obtain ⟨r_11, hq_12, hf⟩ := ob1_use hf
                refine r_callV0 C h (cw_L_rows_X4_ofMissing_22 C.hts) (rest := [.int (r_7 * r_9)]) (ci := 4) (N := 5) (Cn := RX4) (T := TX4) (c_X4_ofMissing l G cI cC cZ X d0 b0 sl h0 p0 a0 a1 a2 a3 a4 a5 a6 a7 a8 nu va qu sc lo wt x10 (1 : Int32) r_11 hq_12) [0, 1, 2, 3, 4, 5, 6, 7, 8, 9] rfl rfl rfl 0 rfl rfl hl.1 rfl (Nat.le_of_ble_eq_true rfl) ⟨Nat.le_of_ble_eq_true rfl, Nat.le_of_ble_eq_true rfl⟩ rfl dL_rows_374 (fun H locs h => ?_)
                refine lv_iadd hx hb dL_rows_377 ?_
                refine lv_aload_n hx hb dL_rows_378 rfl (lv_at hl 0 rfl) ?_
                refine lv_iconst (v := 1) hx hb dL_rows_379 (by decide) ?_
                obtain ⟨r_13, hq_14, hf⟩ := ob1_use hf
                refine r_callV0 C h (cw_L_rows_X4_count_9 C.hts) (rest := [.int ((r_7 * r_9) + r_11)]) (ci := 4) (N := 5) (Cn := RX4) (T := TX4) (c_X4_count l G cI cC cZ X d0 b0 sl a0 a1 a2 a3 a4 a5 a6 a7 a8 p0 p1 h0 h1 nu va qu sc lo wt ch pl pa po pf ps ho hs (1 : Int32) r_13 hq_14) [0, 1, 2, 3, 4, 5, 6, 7, 8, 9, 10, 11, 12] rfl rfl rfl 0 rfl rfl hl.1 rfl (Nat.le_of_ble_eq_true rfl) ⟨Nat.le_of_ble_eq_true rfl, Nat.le_of_ble_eq_true rfl⟩ rfl dL_rows_380 (fun H locs h => ?_)
                refine lv_icmp_ge (tgt := 390) hx hb dL_rows_383 (by decide) (fun hc => ?_) (fun hc => ?_)
                · replace hf := it_t hf hc
                  exact cut_390 x3 x6 x8 x10 _ _ _ h (lv_sub hl [0, 1, 3, 4, 6] rfl) hf
                · replace hf := it_f hf hc
                  refine lv_iconst (v := 1) hx hb dL_rows_386 (by decide) ?_
                  refine lv_goto (tgt := 391) hx hb dL_rows_387 (by decide) ?_
                  refine lv_istore (lv' := [(5, .int 1), (0, .ref d0), (3, .int x3), (6, .int x6), (8, .int x8), (9, .int x9), (10, .int x10)]) hx hb dL_rows_391 hl (by decide) rfl (fun ls hl => ?_)
                  exact cut_393 x3 1 x6 x8 x10 _ _ _ h (lv_sub hl [1, 2, 0, 3, 4, 6] rfl) hf
  have cut_301 : ∀ (x3 : Int32) (x5 : Int32) (x6 : Int32) (x8 : Int32) (H : Heap) (locs : List Loc) (ls : Array Slot), Hx s G A (wLDc cI cC d0 b0 sl a0 a1 a2 a3 a4 a5 a6 a7 a8 p0 p1 h0 h1 nu va qu sc lo wt ch pl pa po pf ps ho hs) H locs → lv_has ls 11 [(0, .ref d0), (3, .int x3), (5, .int x5), (6, .int x6), (8, .int x8)] → fL_rows_301 nu qu sc lo pl hs x3 x5 x6 x8 = some (rv) → W p l e rm_L_rows s m args below meth c H locs 0 0 (MQ below (Qx G (some (.int rv)) (wLDc cI cC d0 b0 sl a0 a1 a2 a3 a4 a5 a6 a7 a8 p0 p1 h0 h1 nu va qu sc lo wt ch pl pa po pf ps ho hs) A) args s 0 0 A) (F0 m 301 ls []) := by
    intro x3 x5 x6 x8 H locs ls h hl hf
    unfold fL_rows_301 at hf
    refine lv_aload_n hx hb dL_rows_301 rfl (lv_at hl 0 rfl) ?_
    refine lv_iconst (v := 0) hx hb dL_rows_302 (by decide) ?_
    obtain ⟨r_1, hq_2, hf⟩ := ob1_use hf
    refine r_callV0 C h (cw_L_rows_X4_count_9 C.hts) (rest := []) (ci := 4) (N := 5) (Cn := RX4) (T := TX4) (c_X4_count l G cI cC cZ X d0 b0 sl a0 a1 a2 a3 a4 a5 a6 a7 a8 p0 p1 h0 h1 nu va qu sc lo wt ch pl pa po pf ps ho hs (0 : Int32) r_1 hq_2) [0, 1, 2, 3, 4, 5, 6, 7, 8, 9, 10, 11, 12] rfl rfl rfl 0 rfl rfl hl.1 rfl (Nat.le_of_ble_eq_true rfl) ⟨Nat.le_of_ble_eq_true rfl, Nat.le_of_ble_eq_true rfl⟩ rfl dL_rows_303 (fun H locs h => ?_)
    refine lv_istore (lv' := [(9, .int r_1), (0, .ref d0), (3, .int x3), (5, .int x5), (6, .int x6), (8, .int x8)]) hx hb dL_rows_306 hl (by decide) rfl (fun ls hl => ?_)
    refine lv_iconst (v := 0) hx hb dL_rows_308 (by decide) ?_
    refine lv_istore (lv' := [(10, .int 0), (9, .int r_1), (0, .ref d0), (3, .int x3), (5, .int x5), (6, .int x6), (8, .int x8)]) hx hb dL_rows_309 hl (by decide) rfl (fun ls hl => ?_)
    exact cut_311 KF x3 x5 x6 x8 r_1 0 _ _ _ h (lv_sub hl [2, 3, 4, 5, 6, 1, 0] rfl) hf
  have cut_279 : ∀ (x3 : Int32) (x5 : Int32) (x6 : Int32) (H : Heap) (locs : List Loc) (ls : Array Slot), Hx s G A (wLDc cI cC d0 b0 sl a0 a1 a2 a3 a4 a5 a6 a7 a8 p0 p1 h0 h1 nu va qu sc lo wt ch pl pa po pf ps ho hs) H locs → lv_has ls 11 [(0, .ref d0), (3, .int x3), (5, .int x5), (6, .int x6)] → fL_rows_279 nu qu sc lo pl hs x3 x5 x6 = some (rv) → W p l e rm_L_rows s m args below meth c H locs 0 0 (MQ below (Qx G (some (.int rv)) (wLDc cI cC d0 b0 sl a0 a1 a2 a3 a4 a5 a6 a7 a8 p0 p1 h0 h1 nu va qu sc lo wt ch pl pa po pf ps ho hs) A) args s 0 0 A) (F0 m 279 ls []) := by
    intro x3 x5 x6 H locs ls h hl hf
    unfold fL_rows_279 at hf
    refine lv_aload_n hx hb dL_rows_279 rfl (lv_at hl 0 rfl) ?_
    refine lv_iconst (v := 4) hx hb dL_rows_280 (by decide) ?_
    obtain ⟨r_1, hq_2, hf⟩ := ob1_use hf
    refine r_callV0 C h (cw_L_rows_X4_count_9 C.hts) (rest := []) (ci := 4) (N := 5) (Cn := RX4) (T := TX4) (c_X4_count l G cI cC cZ X d0 b0 sl a0 a1 a2 a3 a4 a5 a6 a7 a8 p0 p1 h0 h1 nu va qu sc lo wt ch pl pa po pf ps ho hs (4 : Int32) r_1 hq_2) [0, 1, 2, 3, 4, 5, 6, 7, 8, 9, 10, 11, 12] rfl rfl rfl 0 rfl rfl hl.1 rfl (Nat.le_of_ble_eq_true rfl) ⟨Nat.le_of_ble_eq_true rfl, Nat.le_of_ble_eq_true rfl⟩ rfl dL_rows_281 (fun H locs h => ?_)
    refine lv_bipush (v := 8) hx hb dL_rows_284 (by decide) ?_
    refine lv_icmp_ge (tgt := 297) hx hb dL_rows_286 (by decide) (fun hc => ?_) (fun hc => ?_)
    · replace hf := it_t hf hc
      refine lv_bipush (v := 8) hx hb dL_rows_297 (by decide) ?_
      refine lv_istore (lv' := [(8, .int 8), (0, .ref d0), (3, .int x3), (5, .int x5), (6, .int x6)]) hx hb dL_rows_299 hl (by decide) rfl (fun ls hl => ?_)
      exact cut_301 x3 x5 x6 8 _ _ _ h (lv_sub hl [1, 2, 3, 4, 0] rfl) hf
    · replace hf := it_f hf hc
      refine lv_aload_n hx hb dL_rows_289 rfl (lv_at hl 0 rfl) ?_
      refine lv_iconst (v := 4) hx hb dL_rows_290 (by decide) ?_
      obtain ⟨r_3, hq_4, hf⟩ := ob1_use hf
      refine r_callV0 C h (cw_L_rows_X4_count_9 C.hts) (rest := []) (ci := 4) (N := 5) (Cn := RX4) (T := TX4) (c_X4_count l G cI cC cZ X d0 b0 sl a0 a1 a2 a3 a4 a5 a6 a7 a8 p0 p1 h0 h1 nu va qu sc lo wt ch pl pa po pf ps ho hs (4 : Int32) r_3 hq_4) [0, 1, 2, 3, 4, 5, 6, 7, 8, 9, 10, 11, 12] rfl rfl rfl 0 rfl rfl hl.1 rfl (Nat.le_of_ble_eq_true rfl) ⟨Nat.le_of_ble_eq_true rfl, Nat.le_of_ble_eq_true rfl⟩ rfl dL_rows_291 (fun H locs h => ?_)
      refine lv_goto (tgt := 299) hx hb dL_rows_294 (by decide) ?_
      refine lv_istore (lv' := [(8, .int r_3), (0, .ref d0), (3, .int x3), (5, .int x5), (6, .int x6)]) hx hb dL_rows_299 hl (by decide) rfl (fun ls hl => ?_)
      exact cut_301 x3 x5 x6 r_3 _ _ _ h (lv_sub hl [1, 2, 3, 4, 0] rfl) hf
  have cut_273 : ∀ (x1 : Int32) (x3 : Int32) (x5 : Int32) (x6 : Int32) (x7 : Int32) (x8 : Int32) (H : Heap) (locs : List Loc) (ls : Array Slot), Hx s G A (wLDc cI cC d0 b0 sl a0 a1 a2 a3 a4 a5 a6 a7 a8 p0 p1 h0 h1 nu va qu sc lo wt ch pl pa po pf ps ho hs) H locs → lv_has ls 11 [(0, .ref d0), (1, .int x1), (3, .int x3), (5, .int x5), (6, .int x6), (7, .int x7), (8, .int x8)] → fL_rows_273 nu qu sc lo pl hs x1 x3 x5 x6 x7 x8 = some (rv) → W p l e rm_L_rows s m args below meth c H locs 0 0 (MQ below (Qx G (some (.int rv)) (wLDc cI cC d0 b0 sl a0 a1 a2 a3 a4 a5 a6 a7 a8 p0 p1 h0 h1 nu va qu sc lo wt ch pl pa po pf ps ho hs) A) args s 0 0 A) (F0 m 273 ls []) := by
    intro x1 x3 x5 x6 x7 x8 H locs ls h hl hf
    unfold fL_rows_273 at hf
    obtain ⟨x8_1, ex8_1⟩ : ∃ y : Int32, y = x8 + 1 := ⟨_, rfl⟩
    replace hf := nm_use hf ex8_1
    refine lv_iinc (v := x8_1) (lv' := [(8, .int x8_1), (0, .ref d0), (1, .int x1), (3, .int x3), (5, .int x5), (6, .int x6), (7, .int x7)]) hx hb dL_rows_273 hl (k := 6) rfl (by rw [ex8_1]; rfl) (by decide) rfl (fun ls hl => ?_)
    refine lv_goto (tgt := 136) hx hb dL_rows_276 (by decide) ?_
    exact cut_136 KF x1 x3 x5 x6 x7 x8_1 _ _ _ h (lv_sub hl [1, 2, 3, 4, 5, 6, 0] rfl) hf
  have cut_258 : ∀ (x1 : Int32) (x3 : Int32) (x5 : Int32) (x6 : Int32) (x7 : Int32) (x8 : Int32) (H : Heap) (locs : List Loc) (ls : Array Slot), Hx s G A (wLDc cI cC d0 b0 sl a0 a1 a2 a3 a4 a5 a6 a7 a8 p0 p1 h0 h1 nu va qu sc lo wt ch pl pa po pf ps ho hs) H locs → lv_has ls 11 [(0, .ref d0), (1, .int x1), (3, .int x3), (5, .int x5), (6, .int x6), (7, .int x7), (8, .int x8)] → fL_rows_258 nu qu sc lo pl hs x1 x3 x5 x6 x7 x8 = some (rv) → W p l e rm_L_rows s m args below meth c H locs 0 0 (MQ below (Qx G (some (.int rv)) (wLDc cI cC d0 b0 sl a0 a1 a2 a3 a4 a5 a6 a7 a8 p0 p1 h0 h1 nu va qu sc lo wt ch pl pa po pf ps ho hs) A) args s 0 0 A) (F0 m 258 ls []) := by
    intro x1 x3 x5 x6 x7 x8 H locs ls h hl hf
    unfold fL_rows_258 at hf
    refine lv_iload hx hb dL_rows_258 (lv_at hl 4 rfl) ?_
    refine lv_iload hx hb dL_rows_260 (lv_at hl 5 rfl) ?_
    refine lv_if_eq (tgt := 269) hx hb dL_rows_262 (by decide) (fun hc => ?_) (fun hc => ?_)
    · replace hf := it_t hf hc
      refine lv_iconst (v := 0) hx hb dL_rows_269 (by decide) ?_
      refine lv_iadd hx hb dL_rows_270 ?_
      refine lv_topi (fun x6_1 ex6_1 => ?_)
      replace hf := nm_use hf ex6_1
      refine lv_istore (lv' := [(6, .int x6_1), (0, .ref d0), (1, .int x1), (3, .int x3), (5, .int x5), (7, .int x7), (8, .int x8)]) hx hb dL_rows_271 hl (by decide) rfl (fun ls hl => ?_)
      exact cut_273 x1 x3 x5 x6_1 x7 x8 _ _ _ h (lv_sub hl [1, 2, 3, 4, 0, 5, 6] rfl) hf
    · replace hf := it_f hf hc
      refine lv_iconst (v := 1) hx hb dL_rows_265 (by decide) ?_
      refine lv_goto (tgt := 270) hx hb dL_rows_266 (by decide) ?_
      refine lv_iadd hx hb dL_rows_270 ?_
      refine lv_topi (fun x6_2 ex6_2 => ?_)
      replace hf := nm_use hf ex6_2
      refine lv_istore (lv' := [(6, .int x6_2), (0, .ref d0), (1, .int x1), (3, .int x3), (5, .int x5), (7, .int x7), (8, .int x8)]) hx hb dL_rows_271 hl (by decide) rfl (fun ls hl => ?_)
      exact cut_273 x1 x3 x5 x6_2 x7 x8 _ _ _ h (lv_sub hl [1, 2, 3, 4, 0, 5, 6] rfl) hf
  have cut_255 : ∀ (x1 : Int32) (x3 : Int32) (x5 : Int32) (x6 : Int32) (x8 : Int32) (H : Heap) (locs : List Loc) (ls : Array Slot), Hx s G A (wLDc cI cC d0 b0 sl a0 a1 a2 a3 a4 a5 a6 a7 a8 p0 p1 h0 h1 nu va qu sc lo wt ch pl pa po pf ps ho hs) H locs → lv_has ls 11 [(0, .ref d0), (1, .int x1), (3, .int x3), (5, .int x5), (6, .int x6), (8, .int x8)] → fL_rows_255 nu qu sc lo pl hs x1 x3 x5 x6 x8 = some (rv) → W p l e rm_L_rows s m args below meth c H locs 0 0 (MQ below (Qx G (some (.int rv)) (wLDc cI cC d0 b0 sl a0 a1 a2 a3 a4 a5 a6 a7 a8 p0 p1 h0 h1 nu va qu sc lo wt ch pl pa po pf ps ho hs) A) args s 0 0 A) (F0 m 255 ls []) := by
    intro x1 x3 x5 x6 x8 H locs ls h hl hf
    unfold fL_rows_255 at hf
    refine lv_iconst (v := 0) hx hb dL_rows_255 (by decide) ?_
    refine lv_istore (lv' := [(7, .int 0), (0, .ref d0), (1, .int x1), (3, .int x3), (5, .int x5), (6, .int x6), (8, .int x8)]) hx hb dL_rows_256 hl (by decide) rfl (fun ls hl => ?_)
    exact cut_258 x1 x3 x5 x6 0 x8 _ _ _ h (lv_sub hl [1, 2, 3, 4, 5, 0, 6] rfl) hf
  have cut_241 : ∀ (x1 : Int32) (x3 : Int32) (x5 : Int32) (x6 : Int32) (x7 : Int32) (x8 : Int32) (x9 : Int32) (H : Heap) (locs : List Loc) (ls : Array Slot), Hx s G A (wLDc cI cC d0 b0 sl a0 a1 a2 a3 a4 a5 a6 a7 a8 p0 p1 h0 h1 nu va qu sc lo wt ch pl pa po pf ps ho hs) H locs → lv_has ls 11 [(0, .ref d0), (1, .int x1), (3, .int x3), (5, .int x5), (6, .int x6), (7, .int x7), (8, .int x8), (9, .int x9)] → fL_rows_241 nu qu sc lo pl hs x1 x3 x5 x6 x7 x8 x9 = some (rv) → W p l e rm_L_rows s m args below meth c H locs 0 0 (MQ below (Qx G (some (.int rv)) (wLDc cI cC d0 b0 sl a0 a1 a2 a3 a4 a5 a6 a7 a8 p0 p1 h0 h1 nu va qu sc lo wt ch pl pa po pf ps ho hs) A) args s 0 0 A) (F0 m 241 ls []) := by
    intro x1 x3 x5 x6 x7 x8 x9 H locs ls h hl hf
    unfold fL_rows_241 at hf
    refine lv_iload hx hb dL_rows_241 (lv_at hl 5 rfl) ?_
    refine lv_if_eq (tgt := 255) hx hb dL_rows_243 (by decide) (fun hc => ?_) (fun hc => ?_)
    · replace hf := it_t hf hc
      exact cut_255 x1 x3 x5 x6 x8 _ _ _ h (lv_sub hl [0, 1, 2, 3, 4, 6] rfl) hf
    · replace hf := it_f hf hc
      refine lv_iload hx hb dL_rows_246 (lv_at hl 7 rfl) ?_
      refine lv_if_eq (tgt := 255) hx hb dL_rows_248 (by decide) (fun hc => ?_) (fun hc => ?_)
      · replace hf := it_t hf hc
        exact cut_255 x1 x3 x5 x6 x8 _ _ _ h (lv_sub hl [0, 1, 2, 3, 4, 6] rfl) hf
      · replace hf := it_f hf hc
        refine lv_iconst (v := 1) hx hb dL_rows_251 (by decide) ?_
        refine lv_goto (tgt := 256) hx hb dL_rows_252 (by decide) ?_
        refine lv_istore (lv' := [(7, .int 1), (0, .ref d0), (1, .int x1), (3, .int x3), (5, .int x5), (6, .int x6), (8, .int x8), (9, .int x9)]) hx hb dL_rows_256 hl (by decide) rfl (fun ls hl => ?_)
        exact cut_258 x1 x3 x5 x6 1 x8 _ _ _ h (lv_sub hl [1, 2, 3, 4, 5, 0, 6] rfl) hf
  have cut_238 : ∀ (x1 : Int32) (x3 : Int32) (x6 : Int32) (x7 : Int32) (x8 : Int32) (x9 : Int32) (H : Heap) (locs : List Loc) (ls : Array Slot), Hx s G A (wLDc cI cC d0 b0 sl a0 a1 a2 a3 a4 a5 a6 a7 a8 p0 p1 h0 h1 nu va qu sc lo wt ch pl pa po pf ps ho hs) H locs → lv_has ls 11 [(0, .ref d0), (1, .int x1), (3, .int x3), (6, .int x6), (7, .int x7), (8, .int x8), (9, .int x9)] → fL_rows_238 nu qu sc lo pl hs x1 x3 x6 x7 x8 x9 = some (rv) → W p l e rm_L_rows s m args below meth c H locs 0 0 (MQ below (Qx G (some (.int rv)) (wLDc cI cC d0 b0 sl a0 a1 a2 a3 a4 a5 a6 a7 a8 p0 p1 h0 h1 nu va qu sc lo wt ch pl pa po pf ps ho hs) A) args s 0 0 A) (F0 m 238 ls []) := by
    intro x1 x3 x6 x7 x8 x9 H locs ls h hl hf
    unfold fL_rows_238 at hf
    refine lv_iconst (v := 0) hx hb dL_rows_238 (by decide) ?_
    refine lv_istore (lv' := [(5, .int 0), (0, .ref d0), (1, .int x1), (3, .int x3), (6, .int x6), (7, .int x7), (8, .int x8), (9, .int x9)]) hx hb dL_rows_239 hl (by decide) rfl (fun ls hl => ?_)
    exact cut_241 x1 x3 0 x6 x7 x8 x9 _ _ _ h (lv_sub hl [1, 2, 3, 0, 4, 5, 6, 7] rfl) hf
  have cut_234 : ∀ (x1 : Int32) (x3 : Int32) (x6 : Int32) (x7 : Int32) (x8 : Int32) (x9 : Int32) (H : Heap) (locs : List Loc) (ls : Array Slot), Hx s G A (wLDc cI cC d0 b0 sl a0 a1 a2 a3 a4 a5 a6 a7 a8 p0 p1 h0 h1 nu va qu sc lo wt ch pl pa po pf ps ho hs) H locs → lv_has ls 11 [(0, .ref d0), (1, .int x1), (3, .int x3), (6, .int x6), (7, .int x7), (8, .int x8), (9, .int x9)] → fL_rows_234 nu qu sc lo pl hs x1 x3 x6 x7 x8 x9 = some (rv) → W p l e rm_L_rows s m args below meth c H locs 0 0 (MQ below (Qx G (some (.int rv)) (wLDc cI cC d0 b0 sl a0 a1 a2 a3 a4 a5 a6 a7 a8 p0 p1 h0 h1 nu va qu sc lo wt ch pl pa po pf ps ho hs) A) args s 0 0 A) (F0 m 234 ls []) := by
    intro x1 x3 x6 x7 x8 x9 H locs ls h hl hf
    unfold fL_rows_234 at hf
    refine lv_iconst (v := 1) hx hb dL_rows_234 (by decide) ?_
    refine lv_goto (tgt := 239) hx hb dL_rows_235 (by decide) ?_
    refine lv_istore (lv' := [(5, .int 1), (0, .ref d0), (1, .int x1), (3, .int x3), (6, .int x6), (7, .int x7), (8, .int x8), (9, .int x9)]) hx hb dL_rows_239 hl (by decide) rfl (fun ls hl => ?_)
    exact cut_241 x1 x3 1 x6 x7 x8 x9 _ _ _ h (lv_sub hl [1, 2, 3, 0, 4, 5, 6, 7] rfl) hf
  have cut_219 : ∀ (x1 : Int32) (x3 : Int32) (x6 : Int32) (x7 : Int32) (x8 : Int32) (x9 : Int32) (H : Heap) (locs : List Loc) (ls : Array Slot), Hx s G A (wLDc cI cC d0 b0 sl a0 a1 a2 a3 a4 a5 a6 a7 a8 p0 p1 h0 h1 nu va qu sc lo wt ch pl pa po pf ps ho hs) H locs → lv_has ls 11 [(0, .ref d0), (1, .int x1), (3, .int x3), (6, .int x6), (7, .int x7), (8, .int x8), (9, .int x9)] → fL_rows_219 nu qu sc lo pl hs x1 x3 x6 x7 x8 x9 = some (rv) → W p l e rm_L_rows s m args below meth c H locs 0 0 (MQ below (Qx G (some (.int rv)) (wLDc cI cC d0 b0 sl a0 a1 a2 a3 a4 a5 a6 a7 a8 p0 p1 h0 h1 nu va qu sc lo wt ch pl pa po pf ps ho hs) A) args s 0 0 A) (F0 m 219 ls []) := by
    intro x1 x3 x6 x7 x8 x9 H locs ls h hl hf
    unfold fL_rows_219 at hf
    refine lv_iload hx hb dL_rows_219 (lv_at hl 5 rfl) ?_
    refine lv_aload_n hx hb dL_rows_221 rfl (lv_at hl 0 rfl) ?_
    refine lv_iconst (v := 5) hx hb dL_rows_222 (by decide) ?_
    obtain ⟨r_1, hq_2, hf⟩ := ob1_use hf
    refine r_callV0 C h (cw_L_rows_X4_count_9 C.hts) (rest := [.int x8]) (ci := 4) (N := 5) (Cn := RX4) (T := TX4) (c_X4_count l G cI cC cZ X d0 b0 sl a0 a1 a2 a3 a4 a5 a6 a7 a8 p0 p1 h0 h1 nu va qu sc lo wt ch pl pa po pf ps ho hs (5 : Int32) r_1 hq_2) [0, 1, 2, 3, 4, 5, 6, 7, 8, 9, 10, 11, 12] rfl rfl rfl 0 rfl rfl hl.1 rfl (Nat.le_of_ble_eq_true rfl) ⟨Nat.le_of_ble_eq_true rfl, Nat.le_of_ble_eq_true rfl⟩ rfl dL_rows_223 (fun H locs h => ?_)
    refine lv_icmp_lt (tgt := 234) hx hb dL_rows_226 (by decide) (fun hc => ?_) (fun hc => ?_)
    · replace hf := it_t hf hc
      exact cut_234 x1 x3 x6 x7 x8 x9 _ _ _ h (lv_sub hl [0, 1, 2, 3, 4, 5, 6] rfl) hf
    · replace hf := it_f hf hc
      refine lv_iload hx hb dL_rows_229 (lv_at hl 6 rfl) ?_
      refine lv_if_ne (tgt := 238) hx hb dL_rows_231 (by decide) (fun hc => ?_) (fun hc => ?_)
      · replace hf := it_f hf hc
        exact cut_238 x1 x3 x6 x7 x8 x9 _ _ _ h (lv_sub hl [0, 1, 2, 3, 4, 5, 6] rfl) hf
      · replace hf := it_t hf hc
        exact cut_234 x1 x3 x6 x7 x8 x9 _ _ _ h (lv_sub hl [0, 1, 2, 3, 4, 5, 6] rfl) hf
  have cut_199 : ∀ (x1 : Int32) (x3 : Int32) (x6 : Int32) (x7 : Int32) (x8 : Int32) (x9 : Int32) (H : Heap) (locs : List Loc) (ls : Array Slot), Hx s G A (wLDc cI cC d0 b0 sl a0 a1 a2 a3 a4 a5 a6 a7 a8 p0 p1 h0 h1 nu va qu sc lo wt ch pl pa po pf ps ho hs) H locs → lv_has ls 11 [(0, .ref d0), (1, .int x1), (3, .int x3), (6, .int x6), (7, .int x7), (8, .int x8), (9, .int x9)] → fL_rows_199 nu qu sc lo pl hs x1 x3 x6 x7 x8 x9 = some (rv) → W p l e rm_L_rows s m args below meth c H locs 0 0 (MQ below (Qx G (some (.int rv)) (wLDc cI cC d0 b0 sl a0 a1 a2 a3 a4 a5 a6 a7 a8 p0 p1 h0 h1 nu va qu sc lo wt ch pl pa po pf ps ho hs) A) args s 0 0 A) (F0 m 199 ls []) := by
    intro x1 x3 x6 x7 x8 x9 H locs ls h hl hf
    unfold fL_rows_199 at hf
    refine lv_iload hx hb dL_rows_199 (lv_at hl 6 rfl) ?_
    refine lv_aload_n hx hb dL_rows_201 rfl (lv_at hl 0 rfl) ?_
    refine lv_iload hx hb dL_rows_202 (lv_at hl 5 rfl) ?_
    refine lv_iconst (v := 2) hx hb dL_rows_204 (by decide) ?_
    obtain ⟨r_1, hq_2, hf⟩ := ob1_use hf
    refine r_callV0 C h (cw_L_rows_X4_row_19 C.hts) (rest := [.int x9]) (ci := 4) (N := 5) (Cn := RX4) (T := TX4) (c_X4_row l G cI cC cZ X d0 b0 sl h0 p0 a0 a1 a2 a3 a4 a5 a6 a7 a8 nu va qu sc lo wt x8 (2 : Int32) r_1 hq_2) [0, 1, 2, 3, 4, 5, 6, 7, 8, 9] rfl rfl rfl 0 rfl rfl hl.1 rfl (Nat.le_of_ble_eq_true rfl) ⟨Nat.le_of_ble_eq_true rfl, Nat.le_of_ble_eq_true rfl⟩ rfl dL_rows_205 (fun H locs h => ?_)
    refine lv_if_lt (tgt := 215) hx hb dL_rows_208 (by decide) (fun hc => ?_) (fun hc => ?_)
    · replace hf := it_t hf hc
      refine lv_iconst (v := 0) hx hb dL_rows_215 (by decide) ?_
      refine lv_icmp_ne (tgt := 238) hx hb dL_rows_216 (by decide) (fun hc => ?_) (fun hc => ?_)
      · replace hf := it_f hf hc
        exact cut_238 x1 x3 x6 x7 x8 x9 _ _ _ h (lv_sub hl [0, 1, 2, 3, 4, 5, 6] rfl) hf
      · replace hf := it_t hf hc
        exact cut_219 x1 x3 x6 x7 x8 x9 _ _ _ h (lv_sub hl [0, 1, 2, 3, 4, 5, 6] rfl) hf
    · replace hf := it_f hf hc
      refine lv_iconst (v := 1) hx hb dL_rows_211 (by decide) ?_
      refine lv_goto (tgt := 216) hx hb dL_rows_212 (by decide) ?_
      refine lv_icmp_ne (tgt := 238) hx hb dL_rows_216 (by decide) (fun hc => ?_) (fun hc => ?_)
      · replace hf := it_f hf hc
        exact cut_238 x1 x3 x6 x7 x8 x9 _ _ _ h (lv_sub hl [0, 1, 2, 3, 4, 5, 6] rfl) hf
      · replace hf := it_t hf hc
        exact cut_219 x1 x3 x6 x7 x8 x9 _ _ _ h (lv_sub hl [0, 1, 2, 3, 4, 5, 6] rfl) hf
  have cut_164 : ∀ (x1 : Int32) (x3 : Int32) (x6 : Int32) (x7 : Int32) (x8 : Int32) (x9 : Int32) (H : Heap) (locs : List Loc) (ls : Array Slot), Hx s G A (wLDc cI cC d0 b0 sl a0 a1 a2 a3 a4 a5 a6 a7 a8 p0 p1 h0 h1 nu va qu sc lo wt ch pl pa po pf ps ho hs) H locs → lv_has ls 11 [(0, .ref d0), (1, .int x1), (3, .int x3), (6, .int x6), (7, .int x7), (8, .int x8), (9, .int x9)] → fL_rows_164 nu qu sc lo pl hs x1 x3 x6 x7 x8 x9 = some (rv) → W p l e rm_L_rows s m args below meth c H locs 0 0 (MQ below (Qx G (some (.int rv)) (wLDc cI cC d0 b0 sl a0 a1 a2 a3 a4 a5 a6 a7 a8 p0 p1 h0 h1 nu va qu sc lo wt ch pl pa po pf ps ho hs) A) args s 0 0 A) (F0 m 164 ls []) := by
    intro x1 x3 x6 x7 x8 x9 H locs ls h hl hf
    unfold fL_rows_164 at hf
    refine lv_aload_n hx hb dL_rows_164 rfl (lv_at hl 0 rfl) ?_
    refine lv_iload hx hb dL_rows_165 (lv_at hl 5 rfl) ?_
    refine lv_iconst (v := 0) hx hb dL_rows_167 (by decide) ?_
    obtain ⟨r_1, hq_2, hf⟩ := ob1_use hf
    refine r_callV0 C h (cw_L_rows_X4_row_19 C.hts) (rest := []) (ci := 4) (N := 5) (Cn := RX4) (T := TX4) (c_X4_row l G cI cC cZ X d0 b0 sl h0 p0 a0 a1 a2 a3 a4 a5 a6 a7 a8 nu va qu sc lo wt x8 (0 : Int32) r_1 hq_2) [0, 1, 2, 3, 4, 5, 6, 7, 8, 9] rfl rfl rfl 0 rfl rfl hl.1 rfl (Nat.le_of_ble_eq_true rfl) ⟨Nat.le_of_ble_eq_true rfl, Nat.le_of_ble_eq_true rfl⟩ rfl dL_rows_168 (fun H locs h => ?_)
    refine lv_bipush (v := (-6)) hx hb dL_rows_171 (by decide) ?_
    refine lv_icmp_ne (tgt := 180) hx hb dL_rows_173 (by decide) (fun hc => ?_) (fun hc => ?_)
    · replace hf := it_f hf hc
      refine lv_iconst (v := 0) hx hb dL_rows_180 (by decide) ?_
      refine lv_iload hx hb dL_rows_181 (lv_at hl 5 rfl) ?_
      refine lv_aload_n hx hb dL_rows_183 rfl (lv_at hl 0 rfl) ?_
      refine lv_iconst (v := 5) hx hb dL_rows_184 (by decide) ?_
      obtain ⟨r_3, hq_4, hf⟩ := ob1_use hf
      refine r_callV0 C h (cw_L_rows_X4_count_9 C.hts) (rest := [.int x8, .int 0]) (ci := 4) (N := 5) (Cn := RX4) (T := TX4) (c_X4_count l G cI cC cZ X d0 b0 sl a0 a1 a2 a3 a4 a5 a6 a7 a8 p0 p1 h0 h1 nu va qu sc lo wt ch pl pa po pf ps ho hs (5 : Int32) r_3 hq_4) [0, 1, 2, 3, 4, 5, 6, 7, 8, 9, 10, 11, 12] rfl rfl rfl 0 rfl rfl hl.1 rfl (Nat.le_of_ble_eq_true rfl) ⟨Nat.le_of_ble_eq_true rfl, Nat.le_of_ble_eq_true rfl⟩ rfl dL_rows_185 (fun H locs h => ?_)
      refine lv_icmp_lt (tgt := 195) hx hb dL_rows_188 (by decide) (fun hc => ?_) (fun hc => ?_)
      · replace hf := it_t hf hc
        refine lv_iconst (v := 0) hx hb dL_rows_195 (by decide) ?_
        refine lv_icmp_ne (tgt := 238) hx hb dL_rows_196 (by decide) (fun hc => absurd hc (by decide)) (fun _ => ?_)
        exact cut_199 x1 x3 x6 x7 x8 x9 _ _ _ h (lv_sub hl [0, 1, 2, 3, 4, 5, 6] rfl) hf
      · replace hf := it_f hf hc
        refine lv_iconst (v := 1) hx hb dL_rows_191 (by decide) ?_
        refine lv_goto (tgt := 196) hx hb dL_rows_192 (by decide) ?_
        refine lv_icmp_ne (tgt := 238) hx hb dL_rows_196 (by decide) (fun _ => ?_) (fun hc => absurd hc (by decide))
        exact cut_238 x1 x3 x6 x7 x8 x9 _ _ _ h (lv_sub hl [0, 1, 2, 3, 4, 5, 6] rfl) hf
    · replace hf := it_t hf hc
      refine lv_iconst (v := 1) hx hb dL_rows_176 (by decide) ?_
      refine lv_goto (tgt := 181) hx hb dL_rows_177 (by decide) ?_
      refine lv_iload hx hb dL_rows_181 (lv_at hl 5 rfl) ?_
      refine lv_aload_n hx hb dL_rows_183 rfl (lv_at hl 0 rfl) ?_
      refine lv_iconst (v := 5) hx hb dL_rows_184 (by decide) ?_
      obtain ⟨r_5, hq_6, hf⟩ := ob1_use hf
      refine r_callV0 C h (cw_L_rows_X4_count_9 C.hts) (rest := [.int x8, .int 1]) (ci := 4) (N := 5) (Cn := RX4) (T := TX4) (c_X4_count l G cI cC cZ X d0 b0 sl a0 a1 a2 a3 a4 a5 a6 a7 a8 p0 p1 h0 h1 nu va qu sc lo wt ch pl pa po pf ps ho hs (5 : Int32) r_5 hq_6) [0, 1, 2, 3, 4, 5, 6, 7, 8, 9, 10, 11, 12] rfl rfl rfl 0 rfl rfl hl.1 rfl (Nat.le_of_ble_eq_true rfl) ⟨Nat.le_of_ble_eq_true rfl, Nat.le_of_ble_eq_true rfl⟩ rfl dL_rows_185 (fun H locs h => ?_)
      refine lv_icmp_lt (tgt := 195) hx hb dL_rows_188 (by decide) (fun hc => ?_) (fun hc => ?_)
      · replace hf := it_t hf hc
        refine lv_iconst (v := 0) hx hb dL_rows_195 (by decide) ?_
        refine lv_icmp_ne (tgt := 238) hx hb dL_rows_196 (by decide) (fun _ => ?_) (fun hc => absurd hc (by decide))
        exact cut_238 x1 x3 x6 x7 x8 x9 _ _ _ h (lv_sub hl [0, 1, 2, 3, 4, 5, 6] rfl) hf
      · replace hf := it_f hf hc
        refine lv_iconst (v := 1) hx hb dL_rows_191 (by decide) ?_
        refine lv_goto (tgt := 196) hx hb dL_rows_192 (by decide) ?_
        refine lv_icmp_ne (tgt := 238) hx hb dL_rows_196 (by decide) (fun hc => absurd hc (by decide)) (fun _ => ?_)
        exact cut_199 x1 x3 x6 x7 x8 x9 _ _ _ h (lv_sub hl [0, 1, 2, 3, 4, 5, 6] rfl) hf
  have cut_136 : ∀ (n : Nat) (x1 : Int32) (x3 : Int32) (x5 : Int32) (x6 : Int32) (x7 : Int32) (x8 : Int32) (H : Heap) (locs : List Loc) (ls : Array Slot), Hx s G A (wLDc cI cC d0 b0 sl a0 a1 a2 a3 a4 a5 a6 a7 a8 p0 p1 h0 h1 nu va qu sc lo wt ch pl pa po pf ps ho hs) H locs → lv_has ls 11 [(0, .ref d0), (1, .int x1), (3, .int x3), (5, .int x5), (6, .int x6), (7, .int x7), (8, .int x8)] → fL_rows_136 n nu qu sc lo pl hs x1 x3 x5 x6 x7 x8 = some (rv) → W p l e rm_L_rows s m args below meth c H locs 0 0 (MQ below (Qx G (some (.int rv)) (wLDc cI cC d0 b0 sl a0 a1 a2 a3 a4 a5 a6 a7 a8 p0 p1 h0 h1 nu va qu sc lo wt ch pl pa po pf ps ho hs) A) args s 0 0 A) (F0 m 136 ls []) := by
    intro n
    induction n with
    | zero =>
      intro x1 x3 x5 x6 x7 x8 H locs ls h hl hf
      exact (nn_some _ hf).elim
    | succ n ih =>
      intro x1 x3 x5 x6 x7 x8 H locs ls h hl hf
      have hf : fL_rows_136_b (fL_rows_136 n) nu qu sc lo pl hs x1 x3 x5 x6 x7 x8 = some (rv) := hf
      unfold fL_rows_136_b at hf
      refine lv_iload hx hb dL_rows_136 (lv_at hl 6 rfl) ?_
      refine lv_iload_n hx hb dL_rows_138 rfl (lv_at hl 1 rfl) ?_
      refine lv_icmp_ge (tgt := 279) hx hb dL_rows_139 (by decide) (fun hc => ?_) (fun hc => ?_)
      · replace hf := it_t hf hc
        exact cut_279 x3 x5 x6 _ _ _ h (lv_sub hl [0, 2, 3, 4] rfl) hf
      · replace hf := it_f hf hc
        refine lv_iload hx hb dL_rows_142 (lv_at hl 3 rfl) ?_
        refine lv_if_eq (tgt := 279) hx hb dL_rows_144 (by decide) (fun hc => ?_) (fun hc => ?_)
        · replace hf := it_t hf hc
          exact cut_279 x3 x5 x6 _ _ _ h (lv_sub hl [0, 2, 3, 4] rfl) hf
        · replace hf := it_f hf hc
          refine lv_aload_n hx hb dL_rows_147 rfl (lv_at hl 0 rfl) ?_
          refine lv_iload hx hb dL_rows_148 (lv_at hl 6 rfl) ?_
          refine lv_iconst (v := 1) hx hb dL_rows_150 (by decide) ?_
          obtain ⟨r_1, hq_2, hf⟩ := ob1_use hf
          refine r_callV0 C h (cw_L_rows_X4_row_19 C.hts) (rest := []) (ci := 4) (N := 5) (Cn := RX4) (T := TX4) (c_X4_row l G cI cC cZ X d0 b0 sl h0 p0 a0 a1 a2 a3 a4 a5 a6 a7 a8 nu va qu sc lo wt x8 (1 : Int32) r_1 hq_2) [0, 1, 2, 3, 4, 5, 6, 7, 8, 9] rfl rfl rfl 0 rfl rfl hl.1 rfl (Nat.le_of_ble_eq_true rfl) ⟨Nat.le_of_ble_eq_true rfl, Nat.le_of_ble_eq_true rfl⟩ rfl dL_rows_151 (fun H locs h => ?_)
          refine lv_if_lt (tgt := 161) hx hb dL_rows_154 (by decide) (fun hc => ?_) (fun hc => ?_)
          · replace hf := it_t hf hc
            refine lv_iconst (v := 0) hx hb dL_rows_161 (by decide) ?_
            refine lv_istore (lv' := [(9, .int 0), (0, .ref d0), (1, .int x1), (3, .int x3), (5, .int x5), (6, .int x6), (7, .int x7), (8, .int x8)]) hx hb dL_rows_162 hl (by decide) rfl (fun ls hl => ?_)
            exact cut_164 x1 x3 x6 x7 x8 0 _ _ _ h (lv_sub hl [1, 2, 3, 5, 6, 7, 0] rfl) hf
          · replace hf := it_f hf hc
            refine lv_iconst (v := 1) hx hb dL_rows_157 (by decide) ?_
            refine lv_goto (tgt := 162) hx hb dL_rows_158 (by decide) ?_
            refine lv_istore (lv' := [(9, .int 1), (0, .ref d0), (1, .int x1), (3, .int x3), (5, .int x5), (6, .int x6), (7, .int x7), (8, .int x8)]) hx hb dL_rows_162 hl (by decide) rfl (fun ls hl => ?_)
            exact cut_164 x1 x3 x6 x7 x8 1 _ _ _ h (lv_sub hl [1, 2, 3, 5, 6, 7, 0] rfl) hf
  have cut_127 : ∀ (x1 : Int32) (x3 : Int32) (x5 : Int32) (H : Heap) (locs : List Loc) (ls : Array Slot), Hx s G A (wLDc cI cC d0 b0 sl a0 a1 a2 a3 a4 a5 a6 a7 a8 p0 p1 h0 h1 nu va qu sc lo wt ch pl pa po pf ps ho hs) H locs → lv_has ls 11 [(0, .ref d0), (1, .int x1), (3, .int x3), (5, .int x5)] → fL_rows_127 nu qu sc lo pl hs x1 x3 x5 = some (rv) → W p l e rm_L_rows s m args below meth c H locs 0 0 (MQ below (Qx G (some (.int rv)) (wLDc cI cC d0 b0 sl a0 a1 a2 a3 a4 a5 a6 a7 a8 p0 p1 h0 h1 nu va qu sc lo wt ch pl pa po pf ps ho hs) A) args s 0 0 A) (F0 m 127 ls []) := by
    intro x1 x3 x5 H locs ls h hl hf
    unfold fL_rows_127 at hf
    refine lv_iconst (v := 0) hx hb dL_rows_127 (by decide) ?_
    refine lv_istore (lv' := [(6, .int 0), (0, .ref d0), (1, .int x1), (3, .int x3), (5, .int x5)]) hx hb dL_rows_128 hl (by decide) rfl (fun ls hl => ?_)
    refine lv_iconst (v := 1) hx hb dL_rows_130 (by decide) ?_
    refine lv_istore (lv' := [(7, .int 1), (6, .int 0), (0, .ref d0), (1, .int x1), (3, .int x3), (5, .int x5)]) hx hb dL_rows_131 hl (by decide) rfl (fun ls hl => ?_)
    refine lv_iconst (v := 0) hx hb dL_rows_133 (by decide) ?_
    refine lv_istore (lv' := [(8, .int 0), (7, .int 1), (6, .int 0), (0, .ref d0), (1, .int x1), (3, .int x3), (5, .int x5)]) hx hb dL_rows_134 hl (by decide) rfl (fun ls hl => ?_)
    exact cut_136 KF x1 x3 x5 0 1 0 _ _ _ h (lv_sub hl [3, 4, 5, 6, 2, 1, 0] rfl) hf
  have cut_124 : ∀ (x1 : Int32) (x3 : Int32) (H : Heap) (locs : List Loc) (ls : Array Slot), Hx s G A (wLDc cI cC d0 b0 sl a0 a1 a2 a3 a4 a5 a6 a7 a8 p0 p1 h0 h1 nu va qu sc lo wt ch pl pa po pf ps ho hs) H locs → lv_has ls 11 [(0, .ref d0), (1, .int x1), (3, .int x3)] → fL_rows_124 nu qu sc lo pl hs x1 x3 = some (rv) → W p l e rm_L_rows s m args below meth c H locs 0 0 (MQ below (Qx G (some (.int rv)) (wLDc cI cC d0 b0 sl a0 a1 a2 a3 a4 a5 a6 a7 a8 p0 p1 h0 h1 nu va qu sc lo wt ch pl pa po pf ps ho hs) A) args s 0 0 A) (F0 m 124 ls []) := by
    intro x1 x3 H locs ls h hl hf
    unfold fL_rows_124 at hf
    refine lv_iconst (v := 0) hx hb dL_rows_124 (by decide) ?_
    refine lv_istore (lv' := [(5, .int 0), (0, .ref d0), (1, .int x1), (3, .int x3)]) hx hb dL_rows_125 hl (by decide) rfl (fun ls hl => ?_)
    exact cut_127 x1 x3 0 _ _ _ h (lv_sub hl [1, 2, 3, 0] rfl) hf
  have cut_28 : ∀ (x1 : Int32) (x2 : Int32) (H : Heap) (locs : List Loc) (ls : Array Slot), Hx s G A (wLDc cI cC d0 b0 sl a0 a1 a2 a3 a4 a5 a6 a7 a8 p0 p1 h0 h1 nu va qu sc lo wt ch pl pa po pf ps ho hs) H locs → lv_has ls 11 [(0, .ref d0), (1, .int x1), (2, .int x2)] → fL_rows_28 nu qu sc lo pl hs x1 x2 = some (rv) → W p l e rm_L_rows s m args below meth c H locs 0 0 (MQ below (Qx G (some (.int rv)) (wLDc cI cC d0 b0 sl a0 a1 a2 a3 a4 a5 a6 a7 a8 p0 p1 h0 h1 nu va qu sc lo wt ch pl pa po pf ps ho hs) A) args s 0 0 A) (F0 m 28 ls []) := by
    intro x1 x2 H locs ls h hl hf
    unfold fL_rows_28 at hf
    refine lv_aload_n hx hb dL_rows_28 rfl (lv_at hl 0 rfl) ?_
    refine lv_bipush (v := 12) hx hb dL_rows_29 (by decide) ?_
    obtain ⟨r_1, hq_2, hf⟩ := ob1_use hf
    refine r_callV0 C h (cw_L_rows_X4_count_9 C.hts) (rest := []) (ci := 4) (N := 5) (Cn := RX4) (T := TX4) (c_X4_count l G cI cC cZ X d0 b0 sl a0 a1 a2 a3 a4 a5 a6 a7 a8 p0 p1 h0 h1 nu va qu sc lo wt ch pl pa po pf ps ho hs (12 : Int32) r_1 hq_2) [0, 1, 2, 3, 4, 5, 6, 7, 8, 9, 10, 11, 12] rfl rfl rfl 0 rfl rfl hl.1 rfl (Nat.le_of_ble_eq_true rfl) ⟨Nat.le_of_ble_eq_true rfl, Nat.le_of_ble_eq_true rfl⟩ rfl dL_rows_31 (fun H locs h => ?_)
    refine lv_aload_n hx hb dL_rows_34 rfl (lv_at hl 0 rfl) ?_
    refine lv_bipush (v := 13) hx hb dL_rows_35 (by decide) ?_
    obtain ⟨r_3, hq_4, hf⟩ := ob1_use hf
    refine r_callV0 C h (cw_L_rows_X4_count_9 C.hts) (rest := [.int r_1]) (ci := 4) (N := 5) (Cn := RX4) (T := TX4) (c_X4_count l G cI cC cZ X d0 b0 sl a0 a1 a2 a3 a4 a5 a6 a7 a8 p0 p1 h0 h1 nu va qu sc lo wt ch pl pa po pf ps ho hs (13 : Int32) r_3 hq_4) [0, 1, 2, 3, 4, 5, 6, 7, 8, 9, 10, 11, 12] rfl rfl rfl 0 rfl rfl hl.1 rfl (Nat.le_of_ble_eq_true rfl) ⟨Nat.le_of_ble_eq_true rfl, Nat.le_of_ble_eq_true rfl⟩ rfl dL_rows_37 (fun H locs h => ?_)
    refine lv_iadd hx hb dL_rows_40 ?_
    refine lv_aload_n hx hb dL_rows_41 rfl (lv_at hl 0 rfl) ?_
    refine lv_bipush (v := 14) hx hb dL_rows_42 (by decide) ?_
    obtain ⟨r_5, hq_6, hf⟩ := ob1_use hf
    refine r_callV0 C h (cw_L_rows_X4_count_9 C.hts) (rest := [.int (r_1 + r_3)]) (ci := 4) (N := 5) (Cn := RX4) (T := TX4) (c_X4_count l G cI cC cZ X d0 b0 sl a0 a1 a2 a3 a4 a5 a6 a7 a8 p0 p1 h0 h1 nu va qu sc lo wt ch pl pa po pf ps ho hs (14 : Int32) r_5 hq_6) [0, 1, 2, 3, 4, 5, 6, 7, 8, 9, 10, 11, 12] rfl rfl rfl 0 rfl rfl hl.1 rfl (Nat.le_of_ble_eq_true rfl) ⟨Nat.le_of_ble_eq_true rfl, Nat.le_of_ble_eq_true rfl⟩ rfl dL_rows_44 (fun H locs h => ?_)
    refine lv_iadd hx hb dL_rows_47 ?_
    refine lv_topi (fun x3_7 ex3_7 => ?_)
    replace hf := nm_use hf ex3_7
    refine lv_istore_n (lv' := [(3, .int x3_7), (0, .ref d0), (1, .int x1), (2, .int x2)]) hx hb dL_rows_48 rfl hl (by decide) rfl (fun ls hl => ?_)
    refine lv_aload_n hx hb dL_rows_49 rfl (lv_at hl 1 rfl) ?_
    refine lv_iconst (v := 5) hx hb dL_rows_50 (by decide) ?_
    obtain ⟨r_8, hq_9, hf⟩ := ob1_use hf
    refine r_callV0 C h (cw_L_rows_X4_count_9 C.hts) (rest := []) (ci := 4) (N := 5) (Cn := RX4) (T := TX4) (c_X4_count l G cI cC cZ X d0 b0 sl a0 a1 a2 a3 a4 a5 a6 a7 a8 p0 p1 h0 h1 nu va qu sc lo wt ch pl pa po pf ps ho hs (5 : Int32) r_8 hq_9) [0, 1, 2, 3, 4, 5, 6, 7, 8, 9, 10, 11, 12] rfl rfl rfl 0 rfl rfl hl.1 rfl (Nat.le_of_ble_eq_true rfl) ⟨Nat.le_of_ble_eq_true rfl, Nat.le_of_ble_eq_true rfl⟩ rfl dL_rows_51 (fun H locs h => ?_)
    refine lv_iconst (v := 2) hx hb dL_rows_54 (by decide) ?_
    refine lv_aload_n hx hb dL_rows_55 rfl (lv_at hl 1 rfl) ?_
    refine lv_iconst (v := 3) hx hb dL_rows_56 (by decide) ?_
    obtain ⟨r_10, hq_11, hf⟩ := ob1_use hf
    refine r_callV0 C h (cw_L_rows_X4_count_9 C.hts) (rest := [.int 2, .int r_8]) (ci := 4) (N := 5) (Cn := RX4) (T := TX4) (c_X4_count l G cI cC cZ X d0 b0 sl a0 a1 a2 a3 a4 a5 a6 a7 a8 p0 p1 h0 h1 nu va qu sc lo wt ch pl pa po pf ps ho hs (3 : Int32) r_10 hq_11) [0, 1, 2, 3, 4, 5, 6, 7, 8, 9, 10, 11, 12] rfl rfl rfl 0 rfl rfl hl.1 rfl (Nat.le_of_ble_eq_true rfl) ⟨Nat.le_of_ble_eq_true rfl, Nat.le_of_ble_eq_true rfl⟩ rfl dL_rows_57 (fun H locs h => ?_)
    refine lv_imul hx hb dL_rows_60 ?_
    refine lv_isub hx hb dL_rows_61 ?_
    refine lv_iload_n hx hb dL_rows_62 rfl (lv_at hl 3 rfl) ?_
    refine lv_isub hx hb dL_rows_63 ?_
    refine lv_aload_n hx hb dL_rows_64 rfl (lv_at hl 1 rfl) ?_
    refine lv_bipush (v := 6) hx hb dL_rows_65 (by decide) ?_
    obtain ⟨r_12, hq_13, hf⟩ := ob1_use hf
    refine r_callV0 C h (cw_L_rows_X4_count_9 C.hts) (rest := [.int ((r_8 - (2 * r_10)) - x2)]) (ci := 4) (N := 5) (Cn := RX4) (T := TX4) (c_X4_count l G cI cC cZ X d0 b0 sl a0 a1 a2 a3 a4 a5 a6 a7 a8 p0 p1 h0 h1 nu va qu sc lo wt ch pl pa po pf ps ho hs (6 : Int32) r_12 hq_13) [0, 1, 2, 3, 4, 5, 6, 7, 8, 9, 10, 11, 12] rfl rfl rfl 0 rfl rfl hl.1 rfl (Nat.le_of_ble_eq_true rfl) ⟨Nat.le_of_ble_eq_true rfl, Nat.le_of_ble_eq_true rfl⟩ rfl dL_rows_67 (fun H locs h => ?_)
    refine lv_isub hx hb dL_rows_70 ?_
    refine lv_topi (fun x4_14 ex4_14 => ?_)
    replace hf := nm_use hf ex4_14
    refine lv_istore (lv' := [(4, .int x4_14), (3, .int x3_7), (0, .ref d0), (1, .int x1), (2, .int x2)]) hx hb dL_rows_71 hl (by decide) rfl (fun ls hl => ?_)
    refine lv_iload hx hb dL_rows_73 (lv_at hl 0 rfl) ?_
    refine lv_if_lt (tgt := 124) hx hb dL_rows_75 (by decide) (fun hc => ?_) (fun hc => ?_)
    · replace hf := it_t hf hc
      exact cut_124 x1 x3_7 _ _ _ h (lv_sub hl [2, 3, 1] rfl) hf
    · replace hf := it_f hf hc
      refine lv_iload hx hb dL_rows_78 (lv_at hl 0 rfl) ?_
      refine lv_aload_n hx hb dL_rows_80 rfl (lv_at hl 2 rfl) ?_
      refine lv_iconst (v := 4) hx hb dL_rows_81 (by decide) ?_
      obtain ⟨r_15, hq_16, hf⟩ := ob1_use hf
      refine r_callV0 C h (cw_L_rows_X4_count_9 C.hts) (rest := [.int x4_14]) (ci := 4) (N := 5) (Cn := RX4) (T := TX4) (c_X4_count l G cI cC cZ X d0 b0 sl a0 a1 a2 a3 a4 a5 a6 a7 a8 p0 p1 h0 h1 nu va qu sc lo wt ch pl pa po pf ps ho hs (4 : Int32) r_15 hq_16) [0, 1, 2, 3, 4, 5, 6, 7, 8, 9, 10, 11, 12] rfl rfl rfl 0 rfl rfl hl.1 rfl (Nat.le_of_ble_eq_true rfl) ⟨Nat.le_of_ble_eq_true rfl, Nat.le_of_ble_eq_true rfl⟩ rfl dL_rows_82 (fun H locs h => ?_)
      refine lv_icmp_gt (tgt := 124) hx hb dL_rows_85 (by decide) (fun hc => ?_) (fun hc => ?_)
      · replace hf := it_t hf hc
        exact cut_124 x1 x3_7 _ _ _ h (lv_sub hl [2, 3, 1] rfl) hf
      · replace hf := it_f hf hc
        refine lv_aload_n hx hb dL_rows_88 rfl (lv_at hl 2 rfl) ?_
        refine lv_iconst (v := 5) hx hb dL_rows_89 (by decide) ?_
        obtain ⟨r_17, hq_18, hf⟩ := ob1_use hf
        refine r_callV0 C h (cw_L_rows_X4_count_9 C.hts) (rest := []) (ci := 4) (N := 5) (Cn := RX4) (T := TX4) (c_X4_count l G cI cC cZ X d0 b0 sl a0 a1 a2 a3 a4 a5 a6 a7 a8 p0 p1 h0 h1 nu va qu sc lo wt ch pl pa po pf ps ho hs (5 : Int32) r_17 hq_18) [0, 1, 2, 3, 4, 5, 6, 7, 8, 9, 10, 11, 12] rfl rfl rfl 0 rfl rfl hl.1 rfl (Nat.le_of_ble_eq_true rfl) ⟨Nat.le_of_ble_eq_true rfl, Nat.le_of_ble_eq_true rfl⟩ rfl dL_rows_90 (fun H locs h => ?_)
        refine lv_iload_n hx hb dL_rows_93 rfl (lv_at hl 1 rfl) ?_
        refine lv_iload_n hx hb dL_rows_94 rfl (lv_at hl 3 rfl) ?_
        refine lv_imul hx hb dL_rows_95 ?_
        refine lv_aload_n hx hb dL_rows_96 rfl (lv_at hl 2 rfl) ?_
        refine lv_bipush (v := 7) hx hb dL_rows_97 (by decide) ?_
        obtain ⟨r_19, hq_20, hf⟩ := ob1_use hf
        refine r_callV0 C h (cw_L_rows_X4_count_9 C.hts) (rest := [.int (x3_7 * x1), .int r_17]) (ci := 4) (N := 5) (Cn := RX4) (T := TX4) (c_X4_count l G cI cC cZ X d0 b0 sl a0 a1 a2 a3 a4 a5 a6 a7 a8 p0 p1 h0 h1 nu va qu sc lo wt ch pl pa po pf ps ho hs (7 : Int32) r_19 hq_20) [0, 1, 2, 3, 4, 5, 6, 7, 8, 9, 10, 11, 12] rfl rfl rfl 0 rfl rfl hl.1 rfl (Nat.le_of_ble_eq_true rfl) ⟨Nat.le_of_ble_eq_true rfl, Nat.le_of_ble_eq_true rfl⟩ rfl dL_rows_99 (fun H locs h => ?_)
        refine lv_iadd hx hb dL_rows_102 ?_
        refine lv_icmp_ne (tgt := 124) hx hb dL_rows_103 (by decide) (fun hc => ?_) (fun hc => ?_)
        · replace hf := it_f hf hc
          exact cut_124 x1 x3_7 _ _ _ h (lv_sub hl [2, 3, 1] rfl) hf
        · replace hf := it_t hf hc
          refine lv_aload_n hx hb dL_rows_106 rfl (lv_at hl 2 rfl) ?_
          refine lv_bipush (v := 6) hx hb dL_rows_107 (by decide) ?_
          obtain ⟨r_21, hq_22, hf⟩ := ob1_use hf
          refine r_callV0 C h (cw_L_rows_X4_count_9 C.hts) (rest := []) (ci := 4) (N := 5) (Cn := RX4) (T := TX4) (c_X4_count l G cI cC cZ X d0 b0 sl a0 a1 a2 a3 a4 a5 a6 a7 a8 p0 p1 h0 h1 nu va qu sc lo wt ch pl pa po pf ps ho hs (6 : Int32) r_21 hq_22) [0, 1, 2, 3, 4, 5, 6, 7, 8, 9, 10, 11, 12] rfl rfl rfl 0 rfl rfl hl.1 rfl (Nat.le_of_ble_eq_true rfl) ⟨Nat.le_of_ble_eq_true rfl, Nat.le_of_ble_eq_true rfl⟩ rfl dL_rows_109 (fun H locs h => ?_)
          refine lv_aload_n hx hb dL_rows_112 rfl (lv_at hl 2 rfl) ?_
          refine lv_iconst (v := 5) hx hb dL_rows_113 (by decide) ?_
          obtain ⟨r_23, hq_24, hf⟩ := ob1_use hf
          refine r_callV0 C h (cw_L_rows_X4_count_9 C.hts) (rest := [.int r_21]) (ci := 4) (N := 5) (Cn := RX4) (T := TX4) (c_X4_count l G cI cC cZ X d0 b0 sl a0 a1 a2 a3 a4 a5 a6 a7 a8 p0 p1 h0 h1 nu va qu sc lo wt ch pl pa po pf ps ho hs (5 : Int32) r_23 hq_24) [0, 1, 2, 3, 4, 5, 6, 7, 8, 9, 10, 11, 12] rfl rfl rfl 0 rfl rfl hl.1 rfl (Nat.le_of_ble_eq_true rfl) ⟨Nat.le_of_ble_eq_true rfl, Nat.le_of_ble_eq_true rfl⟩ rfl dL_rows_114 (fun H locs h => ?_)
          refine lv_icmp_gt (tgt := 124) hx hb dL_rows_117 (by decide) (fun hc => ?_) (fun hc => ?_)
          · replace hf := it_t hf hc
            exact cut_124 x1 x3_7 _ _ _ h (lv_sub hl [2, 3, 1] rfl) hf
          · replace hf := it_f hf hc
            refine lv_iconst (v := 1) hx hb dL_rows_120 (by decide) ?_
            refine lv_goto (tgt := 125) hx hb dL_rows_121 (by decide) ?_
            refine lv_istore (lv' := [(5, .int 1), (4, .int x4_14), (3, .int x3_7), (0, .ref d0), (1, .int x1), (2, .int x2)]) hx hb dL_rows_125 hl (by decide) rfl (fun ls hl => ?_)
            exact cut_127 x1 x3_7 1 _ _ _ h (lv_sub hl [3, 4, 2, 0] rfl) hf
  unfold fL_rows at hf
  refine lv_iconst (v := 2) hx hb dL_rows_0 (by decide) ?_
  refine lv_aload_n hx hb dL_rows_1 rfl (lv_at hl 0 rfl) ?_
  refine lv_bipush (v := 19) hx hb dL_rows_2 (by decide) ?_
  obtain ⟨r_1, hq_2, hf⟩ := ob1_use hf
  refine r_callV0 C h (cw_L_rows_X4_count_9 C.hts) (rest := [.int 2]) (ci := 4) (N := 5) (Cn := RX4) (T := TX4) (c_X4_count l G cI cC cZ X d0 b0 sl a0 a1 a2 a3 a4 a5 a6 a7 a8 p0 p1 h0 h1 nu va qu sc lo wt ch pl pa po pf ps ho hs (19 : Int32) r_1 hq_2) [0, 1, 2, 3, 4, 5, 6, 7, 8, 9, 10, 11, 12] rfl rfl rfl 0 rfl rfl hl.1 rfl (Nat.le_of_ble_eq_true rfl) ⟨Nat.le_of_ble_eq_true rfl, Nat.le_of_ble_eq_true rfl⟩ rfl dL_rows_4 (fun H locs h => ?_)
  refine lv_imul hx hb dL_rows_7 ?_
  refine lv_topi (fun x1_3 ex1_3 => ?_)
  replace hf := nm_use hf ex1_3
  refine lv_istore_n (lv' := [(1, .int x1_3), (0, .ref d0)]) hx hb dL_rows_8 rfl hl (by decide) rfl (fun ls hl => ?_)
  refine lv_aload_n hx hb dL_rows_9 rfl (lv_at hl 1 rfl) ?_
  refine lv_iconst (v := 2) hx hb dL_rows_10 (by decide) ?_
  obtain ⟨r_4, hq_5, hf⟩ := ob1_use hf
  refine r_callV0 C h (cw_L_rows_X4_count_9 C.hts) (rest := []) (ci := 4) (N := 5) (Cn := RX4) (T := TX4) (c_X4_count l G cI cC cZ X d0 b0 sl a0 a1 a2 a3 a4 a5 a6 a7 a8 p0 p1 h0 h1 nu va qu sc lo wt ch pl pa po pf ps ho hs (2 : Int32) r_4 hq_5) [0, 1, 2, 3, 4, 5, 6, 7, 8, 9, 10, 11, 12] rfl rfl rfl 0 rfl rfl hl.1 rfl (Nat.le_of_ble_eq_true rfl) ⟨Nat.le_of_ble_eq_true rfl, Nat.le_of_ble_eq_true rfl⟩ rfl dL_rows_11 (fun H locs h => ?_)
  refine lv_if_le (tgt := 26) hx hb dL_rows_14 (by decide) (fun hc => ?_) (fun hc => ?_)
  · replace hf := it_t hf hc
    refine lv_iconst (v := 0) hx hb dL_rows_26 (by decide) ?_
    refine lv_istore_n (lv' := [(2, .int 0), (1, .int x1_3), (0, .ref d0)]) hx hb dL_rows_27 rfl hl (by decide) rfl (fun ls hl => ?_)
    exact cut_28 x1_3 0 _ _ _ h (lv_sub hl [2, 1, 0] rfl) hf
  · replace hf := it_f hf hc
    refine lv_aload_n hx hb dL_rows_17 rfl (lv_at hl 1 rfl) ?_
    refine lv_iconst (v := 0) hx hb dL_rows_18 (by decide) ?_
    refine lv_iconst (v := 3) hx hb dL_rows_19 (by decide) ?_
    obtain ⟨r_6, hq_7, hf⟩ := ob1_use hf
    refine r_callV0 C h (cw_L_rows_X4_waiting_15 C.hts) (rest := []) (ci := 4) (N := 5) (Cn := RX4) (T := TX4) (c_X4_waiting l G cI cC cZ X d0 b0 sl h0 p0 a0 a1 a2 a3 a4 a5 a6 a7 a8 nu va qu sc lo wt (0 : Int32) (3 : Int32) r_6 hq_7) [0, 1, 2, 3, 4, 5, 6, 7, 8, 9] rfl rfl rfl 0 rfl rfl hl.1 rfl (Nat.le_of_ble_eq_true rfl) ⟨Nat.le_of_ble_eq_true rfl, Nat.le_of_ble_eq_true rfl⟩ rfl dL_rows_20 (fun H locs h => ?_)
    refine lv_goto (tgt := 27) hx hb dL_rows_23 (by decide) ?_
    refine lv_istore_n (lv' := [(2, .int r_6), (1, .int x1_3), (0, .ref d0)]) hx hb dL_rows_27 rfl hl (by decide) rfl (fun ls hl => ?_)
    exact cut_28 x1_3 r_6 _ _ _ h (lv_sub hl [2, 1, 0] rfl) hf
