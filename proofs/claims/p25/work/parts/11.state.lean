/-- the mirror of X2_copyFrom -/
def fX2_copyFrom (nu : Nat → Int32) (va : Nat → Int32) (qu : Nat → Int32) (sc : Nat → Int32) (lo : Nat → Int32) (wt : Int32) (onu : Nat → Int32) (ova : Nat → Int32) (oqu : Nat → Int32) (osc : Nat → Int32) (olo : Nat → Int32) (owt : Int32) : Option ((Nat → Int32) × (Nat → Int32) × (Nat → Int32) × (Nat → Int32) × (Nat → Int32) × Int32) :=
  nd (acok (0 : Int32) (0 : Int32) (24 : Int32) 24 24) <|
  nm (va_cpy onu nu (0 : Int32).toNatClampNeg (0 : Int32).toNatClampNeg (24 : Int32).toNatClampNeg) fun nu_1 =>
  nd (acok (0 : Int32) (0 : Int32) (16 : Int32) 16 16) <|
  nm (va_cpy ova va (0 : Int32).toNatClampNeg (0 : Int32).toNatClampNeg (16 : Int32).toNatClampNeg) fun va_3 =>
  ob1 (fX3_copyFrom 68 qu 68 oqu) fun qu_5 =>
  ob1 (fX3_copyFrom 96 sc 96 osc) fun sc_7 =>
  ob1 (fX3_copyFrom 32 lo 32 olo) fun lo_9 =>
  some (nu_1, va_3, qu_5, sc_7, lo_9, owt)

/-- the mirror of X2_setting -/
def fX2_setting (nu : Nat → Int32) (x1 : Int32) : Option (Int32) :=
  ob1 (fX4_isWithin x1 (0 : Int32) (7 : Int32)) fun r_1 =>
  (if r_1 = 0 then
  some (0)
  else
  chk (16 + x1) 24 fun j_3 =>
  some ((nu j_3)))

/-- the mirror of X2_rowsOfScreen -/
def fX2_rowsOfScreen (nu : Nat → Int32) : Option (Int32) :=
  ob1 (fX2_setting nu (3 : Int32)) fun r_1 =>
  some ((2 * r_1))

def fX2_changeSetting_62 (nu : Nat → Int32) (x1 : Int32) (x2 : Int32) : Option (Int32 × (Nat → Int32)) :=
  chk (16 + x1) 24 fun j_1 =>
  nm ((nu j_1)) fun x3_2 =>
  chk (16 + x1) 24 fun j_3 =>
  nm (upd nu j_3 x2) fun nu_4 =>
  some (x3_2, nu_4)

/-- the mirror of X2_changeSetting -/
def fX2_changeSetting (nu : Nat → Int32) (x1 : Int32) (x2 : Int32) : Option (Int32 × (Nat → Int32)) :=
  ob1 (fX4_isWithin x1 (0 : Int32) (7 : Int32)) fun r_1 =>
  (if r_1 = 0 then
  some ((-2), nu)
  else
  chk x1 8 fun j_3 =>
  chk x1 8 fun j_4 =>
  ob1 (fX4_isWithin x2 (sfLeast j_3) (sfMost j_4)) fun r_5 =>
  (if r_5 = 0 then
  some ((-2), nu)
  else
  (if x1 = 3 then
  (if (nu 0) = 0 then
  (if x1 = 2 then
  (if (nu 2) ≤ x2 then
  fX2_changeSetting_62 nu x1 x2
  else
  some ((-5), nu))
  else
  fX2_changeSetting_62 nu x1 x2)
  else
  some ((-5), nu))
  else
  (if x1 = 2 then
  (if (nu 2) ≤ x2 then
  fX2_changeSetting_62 nu x1 x2
  else
  some ((-5), nu))
  else
  fX2_changeSetting_62 nu x1 x2))))

/-- the mirror of X2_changeValue -/
def fX2_changeValue (va : Nat → Int32) (x1 : Int32) (x2 : Int32) : Option (Int32 × (Nat → Int32)) :=
  ob1 (fX4_isWithin x1 (0 : Int32) (15 : Int32)) fun r_1 =>
  (if r_1 = 0 then
  some ((-1), va)
  else
  ob1 (fX4_isWithin x2 (0 : Int32) (255 : Int32)) fun r_3 =>
  (if r_3 = 0 then
  some ((-2), va)
  else
  chk x1 16 fun j_5 =>
  nm ((va j_5)) fun x3_6 =>
  chk x1 16 fun j_7 =>
  nm (upd va j_7 x2) fun va_8 =>
  some (x3_6, va_8)))

/-- the mirror of X2_delayClock -/
def fX2_delayClock (nu : Nat → Int32) (x1 : Int32) (x2 : Int32) : Option (Int32 × (Nat → Int32)) :=
  ob1 (fX4_isWithin x1 (0 : Int32) (1 : Int32)) fun r_1 =>
  (if r_1 = 0 then
  some ((-2), nu)
  else
  ob1 (fX4_isWithin x2 (1 : Int32) (99 : Int32)) fun r_3 =>
  (if r_3 = 0 then
  some ((-2), nu)
  else
  (if x1 = 0 then
  nm (upd nu 10 ((nu 10) + x2)) fun nu_6 =>
  some ((nu_6 10), nu_6)
  else
  nm (upd nu 11 ((nu 11) + x2)) fun nu_5 =>
  some ((nu_5 11), nu_5))))

/-- the mirror of X2_nextLineWaits -/
def fX2_nextLineWaits (nu : Nat → Int32) (va : Nat → Int32) (qu : Nat → Int32) : Option ((Nat → Int32) × (Nat → Int32)) :=
  nm ((nu 2)) fun x1_1 =>
  nm ((nu 9)) fun x2_2 =>
  nm ((nu 8)) fun x3_3 =>
  ob1 (fX4_isWithin x3_3 (0 : Int32) (15 : Int32)) fun r_4 =>
  (if r_4 = 0 then
  ob1 (fX3_write 4 68 qu x1_1 (0 : Int32) x2_2) fun qu_6 =>
  ob1 (fX3_write 4 68 qu_6 x1_1 (1 : Int32) x3_3) fun qu_8 =>
  ob1 (fX3_write 4 68 qu_8 x1_1 (2 : Int32) ((0 : Int32) &&& 255)) fun qu_10 =>
  ob1 (fX3_write 4 68 qu_10 x1_1 (3 : Int32) (0 : Int32)) fun qu_12 =>
  nm (upd nu 2 ((nu 2) + 1)) fun nu_14 =>
  some (nu_14, qu_12)
  else
  chk x3_3 16 fun j_15 =>
  ob1 (fX2_setting nu (7 : Int32)) fun r_16 =>
  nm (((va j_15) + (r_16 * x2_2))) fun x4_18 =>
  ob1 (fX3_write 4 68 qu x1_1 (0 : Int32) x2_2) fun qu_19 =>
  ob1 (fX3_write 4 68 qu_19 x1_1 (1 : Int32) x3_3) fun qu_21 =>
  ob1 (fX3_write 4 68 qu_21 x1_1 (2 : Int32) (x4_18 &&& 255)) fun qu_23 =>
  ob1 (fX3_write 4 68 qu_23 x1_1 (3 : Int32) (0 : Int32)) fun qu_25 =>
  nm (upd nu 2 ((nu 2) + 1)) fun nu_27 =>
  some (nu_27, qu_25))

def fX2_firstNotOut_2_b (rec : (Nat → Int32) → (Nat → Int32) → Int32 → Option (Int32)) (nu : Nat → Int32) (qu : Nat → Int32) (x1 : Int32) : Option (Int32) :=
  (if ((nu 2) - 1) ≤ x1 then
  some (x1)
  else
  ob1 (fX3_read 4 68 qu x1 (3 : Int32)) fun r_1 =>
  (if r_1 = 0 then
  some (x1)
  else
  nm (x1 + 1) fun x1_3 =>
  rec nu qu x1_3))
def fX2_firstNotOut_2 : Nat → (Nat → Int32) → (Nat → Int32) → Int32 → Option (Int32)
  | 0 => fun _ _ _ => none
  | n + 1 => fX2_firstNotOut_2_b (fX2_firstNotOut_2 n)

/-- the mirror of X2_firstNotOut -/
def fX2_firstNotOut (nu : Nat → Int32) (qu : Nat → Int32) : Option (Int32) :=
  fX2_firstNotOut_2 KF nu qu 0

/-- the mirror of X2_loseWaiting -/
def fX2_loseWaiting (nu : Nat → Int32) (qu : Nat → Int32) (lo : Nat → Int32) (x1 : Int32) (x2 : Int32) : Option ((Nat → Int32) × (Nat → Int32) × (Nat → Int32)) :=
  nm (((nu 4) - (nu 4) / 8 * 8)) fun x3_1 =>
  ob1 (fX3_read 4 68 qu x1 (0 : Int32)) fun r_2 =>
  ob1 (fX3_write 4 32 lo x3_1 (0 : Int32) r_2) fun lo_4 =>
  ob1 (fX3_read 4 68 qu x1 (1 : Int32)) fun r_6 =>
  ob1 (fX3_write 4 32 lo_4 x3_1 (1 : Int32) r_6) fun lo_8 =>
  ob1 (fX3_write 4 32 lo_8 x3_1 (2 : Int32) x2) fun lo_10 =>
  ob1 (fX3_write 4 32 lo_10 x3_1 (3 : Int32) (nu 0)) fun lo_12 =>
  nm (upd nu 4 ((nu 4) + 1)) fun nu_14 =>
  ob1 (fX3_removeRow 4 68 qu x1) fun qu_15 =>
  nm (upd nu_14 2 ((nu_14 2) - 1)) fun nu_17 =>
  some (nu_17, qu_15, lo_12)

def fX2_skipAll_9_b (rec : (Nat → Int32) → (Nat → Int32) → (Nat → Int32) → Int32 → Int32 → Option (Int32 × (Nat → Int32) × (Nat → Int32) × (Nat → Int32))) (nu : Nat → Int32) (qu : Nat → Int32) (lo : Nat → Int32) (x1 : Int32) (x2 : Int32) : Option (Int32 × (Nat → Int32) × (Nat → Int32) × (Nat → Int32)) :=
  (if x1 ≤ x2 then
  some (x1, nu, qu, lo)
  else
  ob3 (fX2_loseWaiting nu qu lo (0 : Int32) (2 : Int32)) fun nu_1 qu_2 lo_3 =>
  nm (x2 + 1) fun x2_5 =>
  rec nu_1 qu_2 lo_3 x1 x2_5)
def fX2_skipAll_9 : Nat → (Nat → Int32) → (Nat → Int32) → (Nat → Int32) → Int32 → Int32 → Option (Int32 × (Nat → Int32) × (Nat → Int32) × (Nat → Int32))
  | 0 => fun _ _ _ _ _ => none
  | n + 1 => fX2_skipAll_9_b (fX2_skipAll_9 n)

/-- the mirror of X2_skipAll -/
def fX2_skipAll (nu : Nat → Int32) (qu : Nat → Int32) (lo : Nat → Int32) : Option (Int32 × (Nat → Int32) × (Nat → Int32) × (Nat → Int32)) :=
  nm ((nu 2)) fun x1_1 =>
  fX2_skipAll_9 KF nu qu lo x1_1 0

def fX2_lineComes_115 (nu : Nat → Int32) (va : Nat → Int32) (qu : Nat → Int32) (lo : Nat → Int32) : Option ((Nat → Int32) × (Nat → Int32) × (Nat → Int32)) :=
  ob1 (fX2_setting nu (0 : Int32)) fun r_1 =>
  nm (upd nu 10 ((nu 10) + r_1)) fun nu_3 =>
  some (nu_3, qu, lo)

def fX2_lineComes_70 (nu : Nat → Int32) (va : Nat → Int32) (qu : Nat → Int32) (lo : Nat → Int32) : Option ((Nat → Int32) × (Nat → Int32) × (Nat → Int32)) :=
  nm (upd nu 8 ((nu 8) + 1)) fun nu_1 =>
  ob1 (fX2_setting nu_1 (3 : Int32)) fun r_2 =>
  (if (nu_1 8) < r_2 then
  fX2_lineComes_115 nu_1 va qu lo
  else
  nm (upd nu_1 8 0) fun nu_4 =>
  nm (upd nu_4 9 ((nu_4 9) + 1)) fun nu_5 =>
  fX2_lineComes_115 nu_5 va qu lo)

/-- the mirror of X2_lineComes -/
def fX2_lineComes (nu : Nat → Int32) (va : Nat → Int32) (qu : Nat → Int32) (lo : Nat → Int32) : Option ((Nat → Int32) × (Nat → Int32) × (Nat → Int32)) :=
  nm (upd nu 1 ((nu 1) + 1)) fun nu_1 =>
  ob2 (fX2_nextLineWaits nu_1 va qu) fun nu_2 qu_3 =>
  ob1 (fX2_setting nu_2 (2 : Int32)) fun r_5 =>
  (if (nu_2 2) ≤ r_5 then
  fX2_lineComes_70 nu_2 va qu_3 lo
  else
  nm (((nu_2 2) - 1)) fun x1_7 =>
  ob1 (fX2_setting nu_2 (4 : Int32)) fun r_8 =>
  (if r_8 = 1 then
  ob1 (fX2_firstNotOut nu_2 qu_3) fun r_18 =>
  (if r_18 = x1_7 then
  ob3 (fX2_loseWaiting nu_2 qu_3 lo r_18 (0 : Int32)) fun nu_24 qu_25 lo_26 =>
  fX2_lineComes_70 nu_24 va qu_25 lo_26
  else
  ob3 (fX2_loseWaiting nu_2 qu_3 lo r_18 (1 : Int32)) fun nu_20 qu_21 lo_22 =>
  fX2_lineComes_70 nu_20 va qu_21 lo_22)
  else
  (if x1_7 = x1_7 then
  ob3 (fX2_loseWaiting nu_2 qu_3 lo x1_7 (0 : Int32)) fun nu_14 qu_15 lo_16 =>
  fX2_lineComes_70 nu_14 va qu_15 lo_16
  else
  ob3 (fX2_loseWaiting nu_2 qu_3 lo x1_7 (1 : Int32)) fun nu_10 qu_11 lo_12 =>
  fX2_lineComes_70 nu_10 va qu_11 lo_12)))

def fX2_skipToPicture_9_b (rec : (Nat → Int32) → (Nat → Int32) → (Nat → Int32) → Int32 → Int32 → Option ((Nat → Int32) × (Nat → Int32) × (Nat → Int32))) (nu : Nat → Int32) (qu : Nat → Int32) (lo : Nat → Int32) (x1 : Int32) (x2 : Int32) : Option ((Nat → Int32) × (Nat → Int32) × (Nat → Int32)) :=
  (if x1 ≤ x2 then
  some (nu, qu, lo)
  else
  ob1 (fX3_read 4 68 qu (0 : Int32) (1 : Int32)) fun r_1 =>
  (if r_1 = 0 then
  ob1 (fX3_read 4 68 qu (0 : Int32) (3 : Int32)) fun r_8 =>
  (if r_8 = 0 then
  some (nu, qu, lo)
  else
  ob3 (fX2_loseWaiting nu qu lo (0 : Int32) (2 : Int32)) fun nu_10 qu_11 lo_12 =>
  nm (x2 + 1) fun x2_14 =>
  rec nu_10 qu_11 lo_12 x1 x2_14)
  else
  ob3 (fX2_loseWaiting nu qu lo (0 : Int32) (2 : Int32)) fun nu_3 qu_4 lo_5 =>
  nm (x2 + 1) fun x2_7 =>
  rec nu_3 qu_4 lo_5 x1 x2_7))
def fX2_skipToPicture_9 : Nat → (Nat → Int32) → (Nat → Int32) → (Nat → Int32) → Int32 → Int32 → Option ((Nat → Int32) × (Nat → Int32) × (Nat → Int32))
  | 0 => fun _ _ _ _ _ => none
  | n + 1 => fX2_skipToPicture_9_b (fX2_skipToPicture_9 n)

/-- the mirror of X2_skipToPicture -/
def fX2_skipToPicture (nu : Nat → Int32) (qu : Nat → Int32) (lo : Nat → Int32) : Option ((Nat → Int32) × (Nat → Int32) × (Nat → Int32)) :=
  nm ((nu 2)) fun x1_1 =>
  fX2_skipToPicture_9 KF nu qu lo x1_1 0

/-- the mirror of X2_showFirstWaiting -/
def fX2_showFirstWaiting (nu : Nat → Int32) (qu : Nat → Int32) (sc : Nat → Int32) (x1 : Int32) : Option ((Nat → Int32) × (Nat → Int32) × (Nat → Int32)) :=
  ob1 (fX3_read 4 68 qu (0 : Int32) (2 : Int32)) fun r_1 =>
  ob1 (fX3_write 3 96 sc x1 (0 : Int32) r_1) fun sc_3 =>
  ob1 (fX3_read 4 68 qu (0 : Int32) (0 : Int32)) fun r_5 =>
  ob1 (fX3_write 3 96 sc_3 x1 (1 : Int32) r_5) fun sc_7 =>
  ob1 (fX3_read 4 68 qu (0 : Int32) (1 : Int32)) fun r_9 =>
  ob1 (fX3_write 3 96 sc_7 x1 (2 : Int32) r_9) fun sc_11 =>
  ob1 (fX3_read 4 68 qu (0 : Int32) (3 : Int32)) fun r_13 =>
  (if r_13 = 0 then
  ob1 (fX3_write 4 68 qu (0 : Int32) (3 : Int32) (1 : Int32)) fun qu_19 =>
  some (nu, qu_19, sc_11)
  else
  ob1 (fX3_removeRow 4 68 qu (0 : Int32)) fun qu_15 =>
  nm (upd nu 2 ((nu 2) - 1)) fun nu_17 =>
  nm (upd nu_17 3 ((nu_17 3) + 1)) fun nu_18 =>
  some (nu_18, qu_15, sc_11))

/-- the mirror of X2_showColour -/
def fX2_showColour (nu : Nat → Int32) (sc : Nat → Int32) (x1 : Int32) : Option ((Nat → Int32) × (Nat → Int32)) :=
  ob1 (fX2_setting nu (6 : Int32)) fun r_1 =>
  ob1 (fX3_write 3 96 sc x1 (0 : Int32) r_1) fun sc_3 =>
  ob1 (fX3_write 3 96 sc_3 x1 (1 : Int32) (-6 : Int32)) fun sc_5 =>
  ob1 (fX3_write 3 96 sc_5 x1 (2 : Int32) (-6 : Int32)) fun sc_7 =>
  nm (upd nu 6 ((nu 6) + 1)) fun nu_9 =>
  some (nu_9, sc_7)

def fX2_judgeScreen_15_b (rec : (Nat → Int32) → Int32 → Int32 → Int32 → Int32 → Option (Int32)) (sc : Nat → Int32) (x1 : Int32) (x2 : Int32) (x3 : Int32) (x4 : Int32) : Option (Int32) :=
  (if x1 ≤ x4 then
  some (x3)
  else
  ob1 (fX3_read 3 96 sc x4 (1 : Int32)) fun r_1 =>
  (if r_1 = (-6) then
  some (2)
  else
  ob1 (fX3_read 3 96 sc x4 (1 : Int32)) fun r_3 =>
  (if r_3 = x2 then
  ob1 (fX3_read 3 96 sc x4 (2 : Int32)) fun r_6 =>
  (if r_6 = (x4 / 2) then
  nm (x4 + 1) fun x4_8 =>
  rec sc x1 x2 x3 x4_8
  else
  nm (x4 + 1) fun x4_9 =>
  rec sc x1 x2 1 x4_9)
  else
  nm (x4 + 1) fun x4_5 =>
  rec sc x1 x2 1 x4_5)))
def fX2_judgeScreen_15 : Nat → (Nat → Int32) → Int32 → Int32 → Int32 → Int32 → Option (Int32)
  | 0 => fun _ _ _ _ _ => none
  | n + 1 => fX2_judgeScreen_15_b (fX2_judgeScreen_15 n)

/-- the mirror of X2_judgeScreen -/
def fX2_judgeScreen (sc : Nat → Int32) (x1 : Int32) : Option (Int32) :=
  ob1 (fX3_read 3 96 sc (0 : Int32) (1 : Int32)) fun r_1 =>
  fX2_judgeScreen_15 KF sc x1 r_1 0 0

def fX2_rowGoesOut_118 (nu : Nat → Int32) (qu : Nat → Int32) (sc : Nat → Int32) (lo : Nat → Int32) : Option ((Nat → Int32) × (Nat → Int32) × (Nat → Int32) × (Nat → Int32)) :=
  ob1 (fX2_setting nu (1 : Int32)) fun r_1 =>
  nm (upd nu 11 ((nu 11) + r_1)) fun nu_3 =>
  some (nu_3, qu, sc, lo)

def fX2_rowGoesOut_52 (nu : Nat → Int32) (qu : Nat → Int32) (sc : Nat → Int32) (lo : Nat → Int32) (x1 : Int32) (x2 : Int32) : Option ((Nat → Int32) × (Nat → Int32) × (Nat → Int32) × (Nat → Int32)) :=
  nm (upd nu 5 ((nu 5) + 1)) fun nu_1 =>
  nm (upd nu_1 7 (x2 + 1)) fun nu_2 =>
  (if (nu_2 7) < x1 then
  fX2_rowGoesOut_118 nu_2 qu sc lo
  else
  nm (upd nu_2 7 0) fun nu_3 =>
  ob1 (fX2_judgeScreen sc x1) fun r_4 =>
  nm ((12 + r_4)) fun y_6 =>
  chk y_6 24 fun j_7 =>
  chk y_6 24 fun j_8 =>
  nm (upd nu_3 j_8 ((nu_3 j_7) + 1)) fun nu_9 =>
  nm (upd nu_9 15 r_4) fun nu_10 =>
  fX2_rowGoesOut_118 nu_10 qu sc lo)

def fX2_rowGoesOut_30 (nu : Nat → Int32) (qu : Nat → Int32) (sc : Nat → Int32) (lo : Nat → Int32) (x1 : Int32) (x2 : Int32) : Option ((Nat → Int32) × (Nat → Int32) × (Nat → Int32) × (Nat → Int32)) :=
  (if (nu 2) ≤ 0 then
  ob2 (fX2_showColour nu sc x2) fun nu_1 sc_2 =>
  fX2_rowGoesOut_52 nu_1 qu sc_2 lo x1 x2
  else
  ob3 (fX2_showFirstWaiting nu qu sc x2) fun nu_4 qu_5 sc_6 =>
  fX2_rowGoesOut_52 nu_4 qu_5 sc_6 lo x1 x2)

/-- the mirror of X2_rowGoesOut -/
def fX2_rowGoesOut (nu : Nat → Int32) (qu : Nat → Int32) (sc : Nat → Int32) (lo : Nat → Int32) : Option ((Nat → Int32) × (Nat → Int32) × (Nat → Int32) × (Nat → Int32)) :=
  ob1 (fX2_rowsOfScreen nu) fun r_1 =>
  nm ((nu 7)) fun x2_3 =>
  (if x2_3 = 0 then
  ob1 (fX2_setting nu (5 : Int32)) fun r_4 =>
  (if r_4 = 1 then
  ob3 (fX2_skipToPicture nu qu lo) fun nu_6 qu_7 lo_8 =>
  fX2_rowGoesOut_30 nu_6 qu_7 sc lo_8 r_1 x2_3
  else
  fX2_rowGoesOut_30 nu qu sc lo r_1 x2_3)
  else
  fX2_rowGoesOut_30 nu qu sc lo r_1 x2_3)

def fX2_passTicks_31_b (rec : (Nat → Int32) → (Nat → Int32) → (Nat → Int32) → (Nat → Int32) → (Nat → Int32) → Int32 → Int32 → Int32 → Option (Int32 × (Nat → Int32) × (Nat → Int32) × (Nat → Int32) × (Nat → Int32) × Int32)) (nu : Nat → Int32) (va : Nat → Int32) (qu : Nat → Int32) (sc : Nat → Int32) (lo : Nat → Int32) (wt : Int32) (x1 : Int32) (x3 : Int32) : Option (Int32 × (Nat → Int32) × (Nat → Int32) × (Nat → Int32) × (Nat → Int32) × Int32) :=
  (if x1 ≤ x3 then
  some ((nu 0), nu, qu, sc, lo, wt)
  else
  (if (nu 0) = (nu 10) then
  ob3 (fX2_lineComes nu va qu lo) fun nu_16 qu_17 lo_18 =>
  (if (nu_16 0) = (nu_16 11) then
  ob4 (fX2_rowGoesOut nu_16 qu_17 sc lo_18) fun nu_25 qu_26 sc_27 lo_28 =>
  nm (((if (nu_25 11) < (nu_25 10) then (nu_25 11) else (nu_25 10)) - (nu_25 0))) fun x4_30 =>
  nm ((if 1 < (if (x1 - x3) < x4_30 then (x1 - x3) else x4_30) then (if (x1 - x3) < x4_30 then (x1 - x3) else x4_30) else 1)) fun x5_31 =>
  nm ((wt + (x5_31 * (nu_25 2)))) fun wt_32 =>
  nm (upd nu_25 0 ((nu_25 0) + x5_31)) fun nu_33 =>
  nm ((x3 + x5_31)) fun x3_34 =>
  rec nu_33 va qu_26 sc_27 lo_28 wt_32 x1 x3_34
  else
  nm (((if (nu_16 11) < (nu_16 10) then (nu_16 11) else (nu_16 10)) - (nu_16 0))) fun x4_20 =>
  nm ((if 1 < (if (x1 - x3) < x4_20 then (x1 - x3) else x4_20) then (if (x1 - x3) < x4_20 then (x1 - x3) else x4_20) else 1)) fun x5_21 =>
  nm ((wt + (x5_21 * (nu_16 2)))) fun wt_22 =>
  nm (upd nu_16 0 ((nu_16 0) + x5_21)) fun nu_23 =>
  nm ((x3 + x5_21)) fun x3_24 =>
  rec nu_23 va qu_17 sc lo_18 wt_22 x1 x3_24)
  else
  (if (nu 0) = (nu 11) then
  ob4 (fX2_rowGoesOut nu qu sc lo) fun nu_6 qu_7 sc_8 lo_9 =>
  nm (((if (nu_6 11) < (nu_6 10) then (nu_6 11) else (nu_6 10)) - (nu_6 0))) fun x4_11 =>
  nm ((if 1 < (if (x1 - x3) < x4_11 then (x1 - x3) else x4_11) then (if (x1 - x3) < x4_11 then (x1 - x3) else x4_11) else 1)) fun x5_12 =>
  nm ((wt + (x5_12 * (nu_6 2)))) fun wt_13 =>
  nm (upd nu_6 0 ((nu_6 0) + x5_12)) fun nu_14 =>
  nm ((x3 + x5_12)) fun x3_15 =>
  rec nu_14 va qu_7 sc_8 lo_9 wt_13 x1 x3_15
  else
  nm (((if (nu 11) < (nu 10) then (nu 11) else (nu 10)) - (nu 0))) fun x4_1 =>
  nm ((if 1 < (if (x1 - x3) < x4_1 then (x1 - x3) else x4_1) then (if (x1 - x3) < x4_1 then (x1 - x3) else x4_1) else 1)) fun x5_2 =>
  nm ((wt + (x5_2 * (nu 2)))) fun wt_3 =>
  nm (upd nu 0 ((nu 0) + x5_2)) fun nu_4 =>
  nm ((x3 + x5_2)) fun x3_5 =>
  rec nu_4 va qu sc lo wt_3 x1 x3_5)))
def fX2_passTicks_31 : Nat → (Nat → Int32) → (Nat → Int32) → (Nat → Int32) → (Nat → Int32) → (Nat → Int32) → Int32 → Int32 → Int32 → Option (Int32 × (Nat → Int32) × (Nat → Int32) × (Nat → Int32) × (Nat → Int32) × Int32)
  | 0 => fun _ _ _ _ _ _ _ _ => none
  | n + 1 => fX2_passTicks_31_b (fX2_passTicks_31 n)

/-- the mirror of X2_passTicks -/
def fX2_passTicks (nu : Nat → Int32) (va : Nat → Int32) (qu : Nat → Int32) (sc : Nat → Int32) (lo : Nat → Int32) (wt : Int32) (x1 : Int32) (x2 : Int32) : Option (Int32 × (Nat → Int32) × (Nat → Int32) × (Nat → Int32) × (Nat → Int32) × Int32) :=
  ob1 (fX4_isWithin x1 (1 : Int32) (999 : Int32)) fun r_1 =>
  (if r_1 = 0 then
  some ((-2), nu, qu, sc, lo, wt)
  else
  (if (nu 0) ≤ (x2 - x1) then
  fX2_passTicks_31 KF nu va qu sc lo wt x1 0
  else
  some ((-4), nu, qu, sc, lo, wt)))

def rm_X2_copyFrom : Room := { frames := 2, cells := 0, slots := 0, locals := 39 }
set_option maxRecDepth 20000 in
theorem lk_X2_copyFrom_9 : Cond.fieldLink RX2 9 "LineDoubler$State" "numbers" "[I" ∈ wsX2_copyFrom := List.mem_of_getElem? (i := 1) (by decide +kernel)
set_option maxRecDepth 20000 in
theorem lm_X2_copyFrom_36 : Cond.methodLink RX2 36 arraycopyName ∈ wsX2_copyFrom := List.mem_of_getElem? (i := 2) (by decide +kernel)
set_option maxRecDepth 20000 in
theorem ln_X2_copyFrom_ac : Cond.native arraycopyName ∈ wsX2_copyFrom := List.mem_of_getElem? (i := 3) (by decide +kernel)
set_option maxRecDepth 20000 in
theorem ls_X2_copyFrom_ac : Cond.static arraycopyName ∈ wsX2_copyFrom := List.mem_of_getElem? (i := 4) (by decide +kernel)
set_option maxRecDepth 20000 in
theorem li_X2_copyFrom_System : Cond.initialized "java/lang/System" ∈ wsX2_copyFrom := List.mem_of_getElem? (i := 5) (by decide +kernel)
set_option maxRecDepth 20000 in
theorem lk_X2_copyFrom_15 : Cond.fieldLink RX2 15 "LineDoubler$State" "values" "[I" ∈ wsX2_copyFrom := List.mem_of_getElem? (i := 6) (by decide +kernel)
set_option maxRecDepth 20000 in
theorem lk_X2_copyFrom_23 : Cond.fieldLink RX2 23 "LineDoubler$State" "queue" "LLineDoubler$Table;" ∈ wsX2_copyFrom := List.mem_of_getElem? (i := 7) (by decide +kernel)
set_option maxRecDepth 20000 in
theorem lk_X2_copyFrom_27 : Cond.fieldLink RX2 27 "LineDoubler$State" "screen" "LLineDoubler$Table;" ∈ wsX2_copyFrom := List.mem_of_getElem? (i := 8) (by decide +kernel)
set_option maxRecDepth 20000 in
theorem lk_X2_copyFrom_30 : Cond.fieldLink RX2 30 "LineDoubler$State" "lost" "LLineDoubler$Table;" ∈ wsX2_copyFrom := List.mem_of_getElem? (i := 9) (by decide +kernel)
set_option maxRecDepth 20000 in
theorem lk_X2_copyFrom_46 : Cond.fieldLink RX2 46 "LineDoubler$State" "waitedSum" "I" ∈ wsX2_copyFrom := List.mem_of_getElem? (i := 10) (by decide +kernel)
set_option maxRecDepth 20000 in
theorem in_X2_copyFrom_X2 : ∀ x ∈ wsX20, x ∈ wsX2_copyFrom := mem_r _ [22, 23, 24, 25, 26, 27] (by decide +kernel)
set_option maxRecDepth 20000 in
theorem cw_X2_copyFrom_X3_copyFrom_42 {s : State} {args : Array Value} (hts : ∀ w ∈ wsX2_copyFrom, w.before args s = true) : CallW rm_X2_copyFrom s args RX2 RX3 42 yX3_copyFrom cX3_copyFrom 2 none wsX3_copyFrom rm_X3_copyFrom 0 0 1 :=
  cwV 1 hts gX2_copyFrom_X3_copyFrom rfl rfl rfl (by decide +kernel) ⟨Nat.le_of_ble_eq_true rfl, Nat.le_of_ble_eq_true rfl⟩
set_option maxHeartbeats 4000000 in
set_option maxRecDepth 100000 in
theorem c_X2_copyFrom (l : Launch) (G : va_G) (cI cC cZ : ClassId) (X : List (ClassId × FieldType)) (a0 a1 a2 a3 a4 a5 a6 a7 a8 o0 o1 o2 o3 o4 o5 o6 o7 o8 : Nat) (nu : Nat → Int32) (va : Nat → Int32) (qu : Nat → Int32) (sc : Nat → Int32) (lo : Nat → Int32) (wt : Int32) (onu : Nat → Int32) (ova : Nat → Int32) (oqu : Nat → Int32) (osc : Nat → Int32) (olo : Nat → Int32) (owt : Int32) (nu' : Nat → Int32) (va' : Nat → Int32) (qu' : Nat → Int32) (sc' : Nat → Int32) (lo' : Nat → Int32) (wt' : Int32) (hf : fX2_copyFrom nu va qu sc lo wt onu ova oqu osc olo owt = some (nu', va', qu', sc', lo', wt')) : CT l yX2_copyFrom wsX2_copyFrom rm_X2_copyFrom G (TY cI cC cZ X) [.ref a0, .ref o0] (wSt2 cI a0 a1 a2 a3 a4 a5 a6 a7 a8 o0 o1 o2 o3 o4 o5 o6 o7 o8 nu va qu sc lo wt onu ova oqu osc olo owt) none (wSt2 cI a0 a1 a2 a3 a4 a5 a6 a7 a8 o0 o1 o2 o3 o4 o5 o6 o7 o8 nu' va' qu' sc' lo' wt' onu ova oqu osc olo owt) := by
  refine CT.of (cc := cX2_copyFrom) (maxL := 2) (ret := none) RX2 rfl (by decide) rfl (Nat.le_of_ble_eq_true rfl) ?_
  intro p e s m args below meth c A ls C hr hlocks hnm h hl
  have hx := C.hx
  have hb := C.hb
  have hl : lv_has ls 2 [(0, .ref a0), (1, .ref o0)] := hl
  unfold fX2_copyFrom at hf
  refine lv_aload_n hx hb dX2_copyFrom_0 rfl (lv_at hl 1 rfl) ?_
  refine r_get C h 9 0 (ci := 2) (N := 6) (Cn := RX2) (T := TX2) rfl rfl (by decide) in_X2_copyFrom_X2 lk_X2_copyFrom_9 rfl dX2_copyFrom_1 ?_
  refine lv_iconst (v := 0) hx hb dX2_copyFrom_4 (by decide) ?_
  refine lv_aload_n hx hb dX2_copyFrom_5 rfl (lv_at hl 0 rfl) ?_
  refine r_get C h 0 0 (ci := 2) (N := 6) (Cn := RX2) (T := TX2) rfl rfl (by decide) in_X2_copyFrom_X2 lk_X2_copyFrom_9 rfl dX2_copyFrom_6 ?_
  refine lv_iconst (v := 0) hx hb dX2_copyFrom_9 (by decide) ?_
  refine lv_bipush (v := 24) hx hb dX2_copyFrom_10 (by decide) ?_
  obtain ⟨hk_2, hf⟩ := nd_use hf
  refine r_copy C h hl.1 10 1 rfl rfl rfl hk_2 lm_X2_copyFrom_36 ln_X2_copyFrom_ac ls_X2_copyFrom_ac li_X2_copyFrom_System (Nat.le_of_ble_eq_true rfl) (by decide) (fun z__ => (wSt2 cI a0 a1 a2 a3 a4 a5 a6 a7 a8 o0 o1 o2 o3 o4 o5 o6 o7 o8 z__ va qu sc lo wt onu ova oqu osc olo owt)) (fun _ => rfl) dX2_copyFrom_12 (fun nu_1 enu_1 H locs h => ?_)
  replace hf := nm_use hf enu_1
  refine lv_aload_n hx hb dX2_copyFrom_15 rfl (lv_at hl 1 rfl) ?_
  refine r_get C h 9 1 (ci := 2) (N := 6) (Cn := RX2) (T := TX2) rfl rfl (by decide) in_X2_copyFrom_X2 lk_X2_copyFrom_15 rfl dX2_copyFrom_16 ?_
  refine lv_iconst (v := 0) hx hb dX2_copyFrom_19 (by decide) ?_
  refine lv_aload_n hx hb dX2_copyFrom_20 rfl (lv_at hl 0 rfl) ?_
  refine r_get C h 0 1 (ci := 2) (N := 6) (Cn := RX2) (T := TX2) rfl rfl (by decide) in_X2_copyFrom_X2 lk_X2_copyFrom_15 rfl dX2_copyFrom_21 ?_
  refine lv_iconst (v := 0) hx hb dX2_copyFrom_24 (by decide) ?_
  refine lv_bipush (v := 16) hx hb dX2_copyFrom_25 (by decide) ?_
  obtain ⟨hk_4, hf⟩ := nd_use hf
  refine r_copy C h hl.1 11 2 rfl rfl rfl hk_4 lm_X2_copyFrom_36 ln_X2_copyFrom_ac ls_X2_copyFrom_ac li_X2_copyFrom_System (Nat.le_of_ble_eq_true rfl) (by decide) (fun z__ => (wSt2 cI a0 a1 a2 a3 a4 a5 a6 a7 a8 o0 o1 o2 o3 o4 o5 o6 o7 o8 nu_1 z__ qu sc lo wt onu ova oqu osc olo owt)) (fun _ => rfl) dX2_copyFrom_27 (fun va_3 eva_3 H locs h => ?_)
  replace hf := nm_use hf eva_3
  refine lv_aload_n hx hb dX2_copyFrom_30 rfl (lv_at hl 0 rfl) ?_
  refine r_get C h 0 2 (ci := 2) (N := 6) (Cn := RX2) (T := TX2) rfl rfl (by decide) in_X2_copyFrom_X2 lk_X2_copyFrom_23 rfl dX2_copyFrom_31 ?_
  refine lv_aload_n hx hb dX2_copyFrom_34 rfl (lv_at hl 1 rfl) ?_
  refine r_get C h 9 2 (ci := 2) (N := 6) (Cn := RX2) (T := TX2) rfl rfl (by decide) in_X2_copyFrom_X2 lk_X2_copyFrom_23 rfl dX2_copyFrom_35 ?_
  obtain ⟨qu_5, hq_6, hf⟩ := ob1_use hf
  refine r_callV C h (cw_X2_copyFrom_X3_copyFrom_42 C.hts) (rest := []) (ci := 3) (N := 2) (Cn := RX3) (T := TX3) (c_X3_copyFrom l G cI cC cZ X a3 a4 o3 o4 4 68 qu 4 68 oqu qu_5 hq_6) [3, 4, 12, 13] rfl rfl rfl rfl 3 rfl rfl hl.1 rfl (Nat.le_of_ble_eq_true rfl) ⟨Nat.le_of_ble_eq_true rfl, Nat.le_of_ble_eq_true rfl⟩ (wSt2 cI a0 a1 a2 a3 a4 a5 a6 a7 a8 o0 o1 o2 o3 o4 o5 o6 o7 o8 nu_1 va_3 qu_5 sc lo wt onu ova oqu osc olo owt) rfl rfl dX2_copyFrom_38 (fun H locs h => ?_)
  refine lv_aload_n hx hb dX2_copyFrom_41 rfl (lv_at hl 0 rfl) ?_
  refine r_get C h 0 3 (ci := 2) (N := 6) (Cn := RX2) (T := TX2) rfl rfl (by decide) in_X2_copyFrom_X2 lk_X2_copyFrom_27 rfl dX2_copyFrom_42 ?_
  refine lv_aload_n hx hb dX2_copyFrom_45 rfl (lv_at hl 1 rfl) ?_
  refine r_get C h 9 3 (ci := 2) (N := 6) (Cn := RX2) (T := TX2) rfl rfl (by decide) in_X2_copyFrom_X2 lk_X2_copyFrom_27 rfl dX2_copyFrom_46 ?_
  obtain ⟨sc_7, hq_8, hf⟩ := ob1_use hf
  refine r_callV C h (cw_X2_copyFrom_X3_copyFrom_42 C.hts) (rest := []) (ci := 3) (N := 2) (Cn := RX3) (T := TX3) (c_X3_copyFrom l G cI cC cZ X a5 a6 o5 o6 3 96 sc 3 96 osc sc_7 hq_8) [5, 6, 14, 15] rfl rfl rfl rfl 5 rfl rfl hl.1 rfl (Nat.le_of_ble_eq_true rfl) ⟨Nat.le_of_ble_eq_true rfl, Nat.le_of_ble_eq_true rfl⟩ (wSt2 cI a0 a1 a2 a3 a4 a5 a6 a7 a8 o0 o1 o2 o3 o4 o5 o6 o7 o8 nu_1 va_3 qu_5 sc_7 lo wt onu ova oqu osc olo owt) rfl rfl dX2_copyFrom_49 (fun H locs h => ?_)
  refine lv_aload_n hx hb dX2_copyFrom_52 rfl (lv_at hl 0 rfl) ?_
  refine r_get C h 0 4 (ci := 2) (N := 6) (Cn := RX2) (T := TX2) rfl rfl (by decide) in_X2_copyFrom_X2 lk_X2_copyFrom_30 rfl dX2_copyFrom_53 ?_
  refine lv_aload_n hx hb dX2_copyFrom_56 rfl (lv_at hl 1 rfl) ?_
  refine r_get C h 9 4 (ci := 2) (N := 6) (Cn := RX2) (T := TX2) rfl rfl (by decide) in_X2_copyFrom_X2 lk_X2_copyFrom_30 rfl dX2_copyFrom_57 ?_
  obtain ⟨lo_9, hq_10, hf⟩ := ob1_use hf
  refine r_callV C h (cw_X2_copyFrom_X3_copyFrom_42 C.hts) (rest := []) (ci := 3) (N := 2) (Cn := RX3) (T := TX3) (c_X3_copyFrom l G cI cC cZ X a7 a8 o7 o8 4 32 lo 4 32 olo lo_9 hq_10) [7, 8, 16, 17] rfl rfl rfl rfl 7 rfl rfl hl.1 rfl (Nat.le_of_ble_eq_true rfl) ⟨Nat.le_of_ble_eq_true rfl, Nat.le_of_ble_eq_true rfl⟩ (wSt2 cI a0 a1 a2 a3 a4 a5 a6 a7 a8 o0 o1 o2 o3 o4 o5 o6 o7 o8 nu_1 va_3 qu_5 sc_7 lo_9 wt onu ova oqu osc olo owt) rfl rfl dX2_copyFrom_60 (fun H locs h => ?_)
  refine lv_aload_n hx hb dX2_copyFrom_63 rfl (lv_at hl 0 rfl) ?_
  refine lv_aload_n hx hb dX2_copyFrom_64 rfl (lv_at hl 1 rfl) ?_
  refine r_get C h 9 5 (ci := 2) (N := 6) (Cn := RX2) (T := TX2) rfl rfl (by decide) in_X2_copyFrom_X2 lk_X2_copyFrom_46 rfl dX2_copyFrom_65 ?_
  refine r_put C h 0 5 (ci := 2) (N := 6) (Cn := RX2) (T := TX2) (ty0 := tyX2) rfl rfl (by decide) in_X2_copyFrom_X2 tyX2_ok nmX2 lk_X2_copyFrom_46 rfl rfl rfl (Nat.le_of_ble_eq_true rfl) (wSt2 cI a0 a1 a2 a3 a4 a5 a6 a7 a8 o0 o1 o2 o3 o4 o5 o6 o7 o8 nu_1 va_3 qu_5 sc_7 lo_9 owt onu ova oqu osc olo owt) rfl dX2_copyFrom_68 (fun H locs h => ?_)
  cases hf
  exact r_vret C h hr hlocks dX2_copyFrom_71
def rm_X2_setting : Room := { frames := 1, cells := 0, slots := 0, locals := 22 }
set_option maxRecDepth 20000 in
theorem lk_X2_setting_9 : Cond.fieldLink RX2 9 "LineDoubler$State" "numbers" "[I" ∈ wsX2_setting := List.mem_of_getElem? (i := 1) (by decide +kernel)
set_option maxRecDepth 20000 in
theorem in_X2_setting_X2 : ∀ x ∈ wsX20, x ∈ wsX2_setting := mem_r _ [5, 6, 7, 8, 9, 10] (by decide +kernel)
set_option maxRecDepth 20000 in
theorem cw_X2_setting_X4_isWithin_50 {s : State} {args : Array Value} (hts : ∀ w ∈ wsX2_setting, w.before args s = true) (hnw : NW s) : va_CN rm_X2_setting s args RX2 50 yX4_isWithin "LineDoubler" cX4_isWithin 3 (some .boolean) wsX4_isWithin rm_X4_isWithin 0 0 3 ∧ (Cond.static yX4_isWithin).before args s = true ∧ True :=
  ⟨va_cnB 3 hts gX2_setting_X4_isWithin_n50 rfl rfl rfl (hnw.2.1 _ lkM_2_50) (hts _ (List.mem_of_getElem? (i := 3) (by decide +kernel))) (by decide +kernel) ⟨Nat.le_of_ble_eq_true rfl, Nat.le_of_ble_eq_true rfl⟩, hts _ (List.mem_of_getElem? (i := 2) (by decide +kernel)), trivial⟩
set_option maxHeartbeats 4000000 in
set_option maxRecDepth 100000 in
theorem c_X2_setting (l : Launch) (G : va_G) (cI cC cZ : ClassId) (X : List (ClassId × FieldType)) (a0 a1 a2 a3 a4 a5 a6 a7 a8 : Nat) (nu : Nat → Int32) (va : Nat → Int32) (qu : Nat → Int32) (sc : Nat → Int32) (lo : Nat → Int32) (wt : Int32) (x1 : Int32) (rv : Int32) (hf : fX2_setting nu x1 = some (rv)) : CT l yX2_setting wsX2_setting rm_X2_setting G (TY cI cC cZ X) [.ref a0, .int x1] (wSt cI a0 a1 a2 a3 a4 a5 a6 a7 a8 nu va qu sc lo wt) (some (.int rv)) (wSt cI a0 a1 a2 a3 a4 a5 a6 a7 a8 nu va qu sc lo wt) := by
  refine CT.of (cc := cX2_setting) (maxL := 2) (ret := (some .int)) RX2 rfl (by decide) rfl (Nat.le_of_ble_eq_true rfl) ?_
  intro p e s m args below meth c A ls C hr hlocks hnm h hl
  have hx := C.hx
  have hb := C.hb
  have hl : lv_has ls 2 [(0, .ref a0), (1, .int x1)] := hl
  unfold fX2_setting at hf
  refine lv_iload_n hx hb dX2_setting_0 rfl (lv_at hl 1 rfl) ?_
  refine lv_iconst (v := 0) hx hb dX2_setting_1 (by decide) ?_
  refine lv_bipush (v := 7) hx hb dX2_setting_2 (by decide) ?_
  obtain ⟨r_1, hq_2, hf⟩ := ob1_use hf
  refine r_callSN C h (cw_X2_setting_X4_isWithin_50 C.hts C.nw) (rest := []) (c_X4_isWithin l G cI cC cZ X x1 (0 : Int32) (7 : Int32) r_1 hq_2) [] rfl rfl rfl rfl hl.1 rfl (Nat.le_of_ble_eq_true rfl) ⟨Nat.le_of_ble_eq_true rfl, Nat.le_of_ble_eq_true rfl⟩ (wSt cI a0 a1 a2 a3 a4 a5 a6 a7 a8 nu va qu sc lo wt) rfl rfl dX2_setting_4 (fun H locs h => ?_)
  refine lv_if_eq (tgt := 22) hx hb dX2_setting_7 (by decide) (fun hc => ?_) (fun hc => ?_)
  · replace hf := it_t hf hc
    refine lv_iconst (v := 0) hx hb dX2_setting_22 (by decide) ?_
    cases hf
    exact r_iret C h hr hlocks dX2_setting_23
  · replace hf := it_f hf hc
    refine lv_aload_n hx hb dX2_setting_10 rfl (lv_at hl 0 rfl) ?_
    refine r_get C h 0 0 (ci := 2) (N := 6) (Cn := RX2) (T := TX2) rfl rfl (by decide) in_X2_setting_X2 lk_X2_setting_9 rfl dX2_setting_11 ?_
    refine lv_bipush (v := 16) hx hb dX2_setting_14 (by decide) ?_
    refine lv_iload_n hx hb dX2_setting_16 rfl (lv_at hl 1 rfl) ?_
    refine lv_iadd hx hb dX2_setting_17 ?_
    obtain ⟨j_3, hj_3, hf⟩ := chk_use hf
    refine r_ald C h 1 rfl rfl hj_3 dX2_setting_18 ?_
    refine lv_goto (tgt := 23) hx hb dX2_setting_19 (by decide) ?_
    cases hf
    exact r_iret C h hr hlocks dX2_setting_23
def rm_X2_rowsOfScreen : Room := { frames := 2, cells := 0, slots := 0, locals := 43 }
set_option maxRecDepth 20000 in
theorem cw_X2_rowsOfScreen_X2_setting_54 {s : State} {args : Array Value} (hts : ∀ w ∈ wsX2_rowsOfScreen, w.before args s = true) : CallW rm_X2_rowsOfScreen s args RX2 RX2 54 yX2_setting cX2_setting 2 (some .int) wsX2_setting rm_X2_setting 0 0 1 :=
  cwV 1 hts gX2_rowsOfScreen_X2_setting rfl rfl rfl (by decide +kernel) ⟨Nat.le_of_ble_eq_true rfl, Nat.le_of_ble_eq_true rfl⟩
set_option maxHeartbeats 4000000 in
set_option maxRecDepth 100000 in
theorem c_X2_rowsOfScreen (l : Launch) (G : va_G) (cI cC cZ : ClassId) (X : List (ClassId × FieldType)) (a0 a1 a2 a3 a4 a5 a6 a7 a8 : Nat) (nu : Nat → Int32) (va : Nat → Int32) (qu : Nat → Int32) (sc : Nat → Int32) (lo : Nat → Int32) (wt : Int32) (rv : Int32) (hf : fX2_rowsOfScreen nu = some (rv)) : CT l yX2_rowsOfScreen wsX2_rowsOfScreen rm_X2_rowsOfScreen G (TY cI cC cZ X) [.ref a0] (wSt cI a0 a1 a2 a3 a4 a5 a6 a7 a8 nu va qu sc lo wt) (some (.int rv)) (wSt cI a0 a1 a2 a3 a4 a5 a6 a7 a8 nu va qu sc lo wt) := by
  refine CT.of (cc := cX2_rowsOfScreen) (maxL := 1) (ret := (some .int)) RX2 rfl (by decide) rfl (Nat.le_of_ble_eq_true rfl) ?_
  intro p e s m args below meth c A ls C hr hlocks hnm h hl
  have hx := C.hx
  have hb := C.hb
  have hl : lv_has ls 1 [(0, .ref a0)] := hl
  unfold fX2_rowsOfScreen at hf
  refine lv_iconst (v := 2) hx hb dX2_rowsOfScreen_0 (by decide) ?_
  refine lv_aload_n hx hb dX2_rowsOfScreen_1 rfl (lv_at hl 0 rfl) ?_
  refine lv_iconst (v := 3) hx hb dX2_rowsOfScreen_2 (by decide) ?_
  obtain ⟨r_1, hq_2, hf⟩ := ob1_use hf
  refine r_callV C h (cw_X2_rowsOfScreen_X2_setting_54 C.hts) (rest := [.int 2]) (ci := 2) (N := 6) (Cn := RX2) (T := TX2) (c_X2_setting l G cI cC cZ X a0 a1 a2 a3 a4 a5 a6 a7 a8 nu va qu sc lo wt (3 : Int32) r_1 hq_2) [0, 1, 2, 3, 4, 5, 6, 7, 8] rfl rfl rfl rfl 0 rfl rfl hl.1 rfl (Nat.le_of_ble_eq_true rfl) ⟨Nat.le_of_ble_eq_true rfl, Nat.le_of_ble_eq_true rfl⟩ (wSt cI a0 a1 a2 a3 a4 a5 a6 a7 a8 nu va qu sc lo wt) rfl rfl dX2_rowsOfScreen_3 (fun H locs h => ?_)
  refine lv_imul hx hb dX2_rowsOfScreen_6 ?_
  cases hf
  exact r_iret C h hr hlocks dX2_rowsOfScreen_7
def rm_X2_changeSetting : Room := { frames := 1, cells := 0, slots := 0, locals := 22 }
set_option maxRecDepth 20000 in
theorem lk_X2_changeSetting_9 : Cond.fieldLink RX2 9 "LineDoubler$State" "numbers" "[I" ∈ wsX2_changeSetting := List.mem_of_getElem? (i := 1) (by decide +kernel)
set_option maxRecDepth 20000 in
theorem in_X2_changeSetting_X2 : ∀ x ∈ wsX20, x ∈ wsX2_changeSetting := mem_r _ [5, 6, 7, 8, 9, 10] (by decide +kernel)
set_option maxRecDepth 20000 in
theorem cw_X2_changeSetting_X4_isWithin_50 {s : State} {args : Array Value} (hts : ∀ w ∈ wsX2_changeSetting, w.before args s = true) (hnw : NW s) : va_CN rm_X2_changeSetting s args RX2 50 yX4_isWithin "LineDoubler" cX4_isWithin 3 (some .boolean) wsX4_isWithin rm_X4_isWithin 0 0 3 ∧ (Cond.static yX4_isWithin).before args s = true ∧ True :=
  ⟨va_cnB 3 hts gX2_changeSetting_X4_isWithin_n50 rfl rfl rfl (hnw.2.1 _ lkM_2_50) (hts _ (List.mem_of_getElem? (i := 3) (by decide +kernel))) (by decide +kernel) ⟨Nat.le_of_ble_eq_true rfl, Nat.le_of_ble_eq_true rfl⟩, hts _ (List.mem_of_getElem? (i := 2) (by decide +kernel)), trivial⟩
set_option maxHeartbeats 4000000 in
set_option maxRecDepth 100000 in
theorem c_X2_changeSetting (l : Launch) (G : va_G) (cI cC cZ : ClassId) (X : List (ClassId × FieldType)) (a0 a1 a2 a3 a4 a5 a6 a7 a8 : Nat) (nu : Nat → Int32) (va : Nat → Int32) (qu : Nat → Int32) (sc : Nat → Int32) (lo : Nat → Int32) (wt : Int32) (x1 : Int32) (x2 : Int32) (rv : Int32) (nu' : Nat → Int32) (hf : fX2_changeSetting nu x1 x2 = some (rv, nu')) : CT l yX2_changeSetting wsX2_changeSetting rm_X2_changeSetting G (TY cI cC cZ X) [.ref a0, .int x1, .int x2] (wSt cI a0 a1 a2 a3 a4 a5 a6 a7 a8 nu va qu sc lo wt) (some (.int rv)) (wSt cI a0 a1 a2 a3 a4 a5 a6 a7 a8 nu' va qu sc lo wt) := by
  refine CT.of (cc := cX2_changeSetting) (maxL := 4) (ret := (some .int)) RX2 rfl (by decide) rfl (Nat.le_of_ble_eq_true rfl) ?_
  intro p e s m args below meth c A ls C hr hlocks hnm h hl
  have hx := C.hx
  have hb := C.hb
  have hl : lv_has ls 4 [(0, .ref a0), (1, .int x1), (2, .int x2)] := hl
  obtain ⟨⟨tF, hZF, hTF⟩, ⟨tL, hZL, hTL⟩, ⟨tM, hZM, hTM⟩⟩ := C.sf
  have cut_62 : ∀ (nu : Nat → Int32) (x1 : Int32) (x2 : Int32) (H : Heap) (locs : List Loc) (ls : Array Slot), Hx s G A (wSt cI a0 a1 a2 a3 a4 a5 a6 a7 a8 nu va qu sc lo wt) H locs → lv_has ls 4 [(0, .ref a0), (1, .int x1), (2, .int x2)] → fX2_changeSetting_62 nu x1 x2 = some (rv, nu') → W p l e rm_X2_changeSetting s m args below meth c H locs 0 0 (MQ below (Qx G (some (.int rv)) (wSt cI a0 a1 a2 a3 a4 a5 a6 a7 a8 nu' va qu sc lo wt) A) args s 0 0 A) (F0 m 62 ls []) := by
    intro nu x1 x2 H locs ls h hl hf
    unfold fX2_changeSetting_62 at hf
    refine lv_aload_n hx hb dX2_changeSetting_62 rfl (lv_at hl 0 rfl) ?_
    refine r_get C h 0 0 (ci := 2) (N := 6) (Cn := RX2) (T := TX2) rfl rfl (by decide) in_X2_changeSetting_X2 lk_X2_changeSetting_9 rfl dX2_changeSetting_63 ?_
    refine lv_bipush (v := 16) hx hb dX2_changeSetting_66 (by decide) ?_
    refine lv_iload_n hx hb dX2_changeSetting_68 rfl (lv_at hl 1 rfl) ?_
    refine lv_iadd hx hb dX2_changeSetting_69 ?_
    obtain ⟨j_1, hj_1, hf⟩ := chk_use hf
    refine r_ald C h 1 rfl rfl hj_1 dX2_changeSetting_70 ?_
    refine lv_topi (fun x3_2 ex3_2 => ?_)
    replace hf := nm_use hf ex3_2
    refine lv_istore_n (lv' := [(3, .int x3_2), (0, .ref a0), (1, .int x1), (2, .int x2)]) hx hb dX2_changeSetting_71 rfl hl (by decide) rfl (fun ls hl => ?_)
    refine lv_aload_n hx hb dX2_changeSetting_72 rfl (lv_at hl 1 rfl) ?_
    refine r_get C h 0 0 (ci := 2) (N := 6) (Cn := RX2) (T := TX2) rfl rfl (by decide) in_X2_changeSetting_X2 lk_X2_changeSetting_9 rfl dX2_changeSetting_73 ?_
    refine lv_bipush (v := 16) hx hb dX2_changeSetting_76 (by decide) ?_
    refine lv_iload_n hx hb dX2_changeSetting_78 rfl (lv_at hl 2 rfl) ?_
    refine lv_iadd hx hb dX2_changeSetting_79 ?_
    refine lv_iload_n hx hb dX2_changeSetting_80 rfl (lv_at hl 3 rfl) ?_
    obtain ⟨j_3, hj_3, hf⟩ := chk_use hf
    refine r_ast C h 1 rfl rfl hj_3 (fun z__ => (wSt cI a0 a1 a2 a3 a4 a5 a6 a7 a8 z__ va qu sc lo wt)) (fun _ => rfl) dX2_changeSetting_81 (fun nu_4 enu_4 H locs h => ?_)
    replace hf := nm_use hf enu_4
    refine lv_iload_n hx hb dX2_changeSetting_82 rfl (lv_at hl 0 rfl) ?_
    cases hf
    exact r_iret C h hr hlocks dX2_changeSetting_83
  unfold fX2_changeSetting at hf
  refine lv_iload_n hx hb dX2_changeSetting_0 rfl (lv_at hl 1 rfl) ?_
  refine lv_iconst (v := 0) hx hb dX2_changeSetting_1 (by decide) ?_
  refine lv_bipush (v := 7) hx hb dX2_changeSetting_2 (by decide) ?_
  obtain ⟨r_1, hq_2, hf⟩ := ob1_use hf
  refine r_callSN C h (cw_X2_changeSetting_X4_isWithin_50 C.hts C.nw) (rest := []) (c_X4_isWithin l G cI cC cZ X x1 (0 : Int32) (7 : Int32) r_1 hq_2) [] rfl rfl rfl rfl hl.1 rfl (Nat.le_of_ble_eq_true rfl) ⟨Nat.le_of_ble_eq_true rfl, Nat.le_of_ble_eq_true rfl⟩ (wSt cI a0 a1 a2 a3 a4 a5 a6 a7 a8 nu va qu sc lo wt) rfl rfl dX2_changeSetting_4 (fun H locs h => ?_)
  refine lv_if_eq (tgt := 27) hx hb dX2_changeSetting_7 (by decide) (fun hc => ?_) (fun hc => ?_)
  · replace hf := it_t hf hc
    refine lv_bipush (v := (-2)) hx hb dX2_changeSetting_27 (by decide) ?_
    cases hf
    exact r_iret C h hr hlocks dX2_changeSetting_29
  · replace hf := it_f hf hc
    refine lv_iload_n hx hb dX2_changeSetting_10 rfl (lv_at hl 2 rfl) ?_
    refine r_getsN C h hZL lkN_2_58 dX2_changeSetting_11 ?_
    refine lv_iload_n hx hb dX2_changeSetting_14 rfl (lv_at hl 1 rfl) ?_
    obtain ⟨j_3, hj_3, hf⟩ := chk_use hf
    refine r_ti C h hTL hj_3 dX2_changeSetting_15 ?_
    refine r_getsN C h hZM lkN_2_61 dX2_changeSetting_16 ?_
    refine lv_iload_n hx hb dX2_changeSetting_19 rfl (lv_at hl 1 rfl) ?_
    obtain ⟨j_4, hj_4, hf⟩ := chk_use hf
    refine r_ti C h hTM hj_4 dX2_changeSetting_20 ?_
    obtain ⟨r_5, hq_6, hf⟩ := ob1_use hf
    refine r_callSN C h (cw_X2_changeSetting_X4_isWithin_50 C.hts C.nw) (rest := []) (c_X4_isWithin l G cI cC cZ X x2 (sfLeast j_3) (sfMost j_4) r_5 hq_6) [] rfl rfl rfl rfl hl.1 rfl (Nat.le_of_ble_eq_true rfl) ⟨Nat.le_of_ble_eq_true rfl, Nat.le_of_ble_eq_true rfl⟩ (wSt cI a0 a1 a2 a3 a4 a5 a6 a7 a8 nu va qu sc lo wt) rfl rfl dX2_changeSetting_21 (fun H locs h => ?_)
    refine lv_if_ne (tgt := 30) hx hb dX2_changeSetting_24 (by decide) (fun hc => ?_) (fun hc => ?_)
    · replace hf := it_f hf hc
      refine lv_iload_n hx hb dX2_changeSetting_30 rfl (lv_at hl 1 rfl) ?_
      refine lv_iconst (v := 3) hx hb dX2_changeSetting_31 (by decide) ?_
      refine lv_icmp_ne (tgt := 44) hx hb dX2_changeSetting_32 (by decide) (fun hc => ?_) (fun hc => ?_)
      · replace hf := it_f hf hc
        refine lv_iload_n hx hb dX2_changeSetting_44 rfl (lv_at hl 1 rfl) ?_
        refine lv_iconst (v := 2) hx hb dX2_changeSetting_45 (by decide) ?_
        refine lv_icmp_ne (tgt := 62) hx hb dX2_changeSetting_46 (by decide) (fun hc => ?_) (fun hc => ?_)
        · replace hf := it_f hf hc
          exact cut_62 nu x1 x2 _ _ _ h (lv_sub hl [0, 1, 2] rfl) hf
        · replace hf := it_t hf hc
          refine lv_iload_n hx hb dX2_changeSetting_49 rfl (lv_at hl 2 rfl) ?_
          refine lv_aload_n hx hb dX2_changeSetting_50 rfl (lv_at hl 0 rfl) ?_
          refine r_get C h 0 0 (ci := 2) (N := 6) (Cn := RX2) (T := TX2) rfl rfl (by decide) in_X2_changeSetting_X2 lk_X2_changeSetting_9 rfl dX2_changeSetting_51 ?_
          refine lv_iconst (v := 2) hx hb dX2_changeSetting_54 (by decide) ?_
          refine r_ald C h 1 rfl rfl k_2_24 dX2_changeSetting_55 ?_
          refine lv_icmp_ge (tgt := 62) hx hb dX2_changeSetting_56 (by decide) (fun hc => ?_) (fun hc => ?_)
          · replace hf := it_t hf hc
            exact cut_62 nu x1 x2 _ _ _ h (lv_sub hl [0, 1, 2] rfl) hf
          · replace hf := it_f hf hc
            refine lv_bipush (v := (-5)) hx hb dX2_changeSetting_59 (by decide) ?_
            cases hf
            exact r_iret C h hr hlocks dX2_changeSetting_61
      · replace hf := it_t hf hc
        refine lv_aload_n hx hb dX2_changeSetting_35 rfl (lv_at hl 0 rfl) ?_
        refine r_get C h 0 0 (ci := 2) (N := 6) (Cn := RX2) (T := TX2) rfl rfl (by decide) in_X2_changeSetting_X2 lk_X2_changeSetting_9 rfl dX2_changeSetting_36 ?_
        refine lv_iconst (v := 0) hx hb dX2_changeSetting_39 (by decide) ?_
        refine r_ald C h 1 rfl rfl k_0_24 dX2_changeSetting_40 ?_
        refine lv_if_ne (tgt := 59) hx hb dX2_changeSetting_41 (by decide) (fun hc => ?_) (fun hc => ?_)
        · replace hf := it_f hf hc
          refine lv_bipush (v := (-5)) hx hb dX2_changeSetting_59 (by decide) ?_
          cases hf
          exact r_iret C h hr hlocks dX2_changeSetting_61
        · replace hf := it_t hf hc
          refine lv_iload_n hx hb dX2_changeSetting_44 rfl (lv_at hl 1 rfl) ?_
          refine lv_iconst (v := 2) hx hb dX2_changeSetting_45 (by decide) ?_
          refine lv_icmp_ne (tgt := 62) hx hb dX2_changeSetting_46 (by decide) (fun hc => ?_) (fun hc => ?_)
          · replace hf := it_f hf hc
            exact cut_62 nu x1 x2 _ _ _ h (lv_sub hl [0, 1, 2] rfl) hf
          · replace hf := it_t hf hc
            refine lv_iload_n hx hb dX2_changeSetting_49 rfl (lv_at hl 2 rfl) ?_
            refine lv_aload_n hx hb dX2_changeSetting_50 rfl (lv_at hl 0 rfl) ?_
            refine r_get C h 0 0 (ci := 2) (N := 6) (Cn := RX2) (T := TX2) rfl rfl (by decide) in_X2_changeSetting_X2 lk_X2_changeSetting_9 rfl dX2_changeSetting_51 ?_
            refine lv_iconst (v := 2) hx hb dX2_changeSetting_54 (by decide) ?_
            refine r_ald C h 1 rfl rfl k_2_24 dX2_changeSetting_55 ?_
            refine lv_icmp_ge (tgt := 62) hx hb dX2_changeSetting_56 (by decide) (fun hc => ?_) (fun hc => ?_)
            · replace hf := it_t hf hc
              exact cut_62 nu x1 x2 _ _ _ h (lv_sub hl [0, 1, 2] rfl) hf
            · replace hf := it_f hf hc
              refine lv_bipush (v := (-5)) hx hb dX2_changeSetting_59 (by decide) ?_
              cases hf
              exact r_iret C h hr hlocks dX2_changeSetting_61
    · replace hf := it_t hf hc
      refine lv_bipush (v := (-2)) hx hb dX2_changeSetting_27 (by decide) ?_
      cases hf
      exact r_iret C h hr hlocks dX2_changeSetting_29
def rm_X2_changeValue : Room := { frames := 1, cells := 0, slots := 0, locals := 22 }
set_option maxRecDepth 20000 in
theorem lk_X2_changeValue_15 : Cond.fieldLink RX2 15 "LineDoubler$State" "values" "[I" ∈ wsX2_changeValue := List.mem_of_getElem? (i := 1) (by decide +kernel)
set_option maxRecDepth 20000 in
theorem in_X2_changeValue_X2 : ∀ x ∈ wsX20, x ∈ wsX2_changeValue := mem_r _ [5, 6, 7, 8, 9, 10] (by decide +kernel)
set_option maxRecDepth 20000 in
theorem cw_X2_changeValue_X4_isWithin_50 {s : State} {args : Array Value} (hts : ∀ w ∈ wsX2_changeValue, w.before args s = true) (hnw : NW s) : va_CN rm_X2_changeValue s args RX2 50 yX4_isWithin "LineDoubler" cX4_isWithin 3 (some .boolean) wsX4_isWithin rm_X4_isWithin 0 0 3 ∧ (Cond.static yX4_isWithin).before args s = true ∧ True :=
  ⟨va_cnB 3 hts gX2_changeValue_X4_isWithin_n50 rfl rfl rfl (hnw.2.1 _ lkM_2_50) (hts _ (List.mem_of_getElem? (i := 3) (by decide +kernel))) (by decide +kernel) ⟨Nat.le_of_ble_eq_true rfl, Nat.le_of_ble_eq_true rfl⟩, hts _ (List.mem_of_getElem? (i := 2) (by decide +kernel)), trivial⟩
set_option maxHeartbeats 4000000 in
set_option maxRecDepth 100000 in
theorem c_X2_changeValue (l : Launch) (G : va_G) (cI cC cZ : ClassId) (X : List (ClassId × FieldType)) (a0 a1 a2 a3 a4 a5 a6 a7 a8 : Nat) (nu : Nat → Int32) (va : Nat → Int32) (qu : Nat → Int32) (sc : Nat → Int32) (lo : Nat → Int32) (wt : Int32) (x1 : Int32) (x2 : Int32) (rv : Int32) (va' : Nat → Int32) (hf : fX2_changeValue va x1 x2 = some (rv, va')) : CT l yX2_changeValue wsX2_changeValue rm_X2_changeValue G (TY cI cC cZ X) [.ref a0, .int x1, .int x2] (wSt cI a0 a1 a2 a3 a4 a5 a6 a7 a8 nu va qu sc lo wt) (some (.int rv)) (wSt cI a0 a1 a2 a3 a4 a5 a6 a7 a8 nu va' qu sc lo wt) := by
  refine CT.of (cc := cX2_changeValue) (maxL := 4) (ret := (some .int)) RX2 rfl (by decide) rfl (Nat.le_of_ble_eq_true rfl) ?_
  intro p e s m args below meth c A ls C hr hlocks hnm h hl
  have hx := C.hx
  have hb := C.hb
  have hl : lv_has ls 4 [(0, .ref a0), (1, .int x1), (2, .int x2)] := hl
  unfold fX2_changeValue at hf
  refine lv_iload_n hx hb dX2_changeValue_0 rfl (lv_at hl 1 rfl) ?_
  refine lv_iconst (v := 0) hx hb dX2_changeValue_1 (by decide) ?_
  refine lv_bipush (v := 15) hx hb dX2_changeValue_2 (by decide) ?_
  obtain ⟨r_1, hq_2, hf⟩ := ob1_use hf
  refine r_callSN C h (cw_X2_changeValue_X4_isWithin_50 C.hts C.nw) (rest := []) (c_X4_isWithin l G cI cC cZ X x1 (0 : Int32) (15 : Int32) r_1 hq_2) [] rfl rfl rfl rfl hl.1 rfl (Nat.le_of_ble_eq_true rfl) ⟨Nat.le_of_ble_eq_true rfl, Nat.le_of_ble_eq_true rfl⟩ (wSt cI a0 a1 a2 a3 a4 a5 a6 a7 a8 nu va qu sc lo wt) rfl rfl dX2_changeValue_4 (fun H locs h => ?_)
  refine lv_if_ne (tgt := 12) hx hb dX2_changeValue_7 (by decide) (fun hc => ?_) (fun hc => ?_)
  · replace hf := it_f hf hc
    refine lv_iload_n hx hb dX2_changeValue_12 rfl (lv_at hl 2 rfl) ?_
    refine lv_iconst (v := 0) hx hb dX2_changeValue_13 (by decide) ?_
    refine lv_sipush (v := 255) hx hb dX2_changeValue_14 (by decide) ?_
    obtain ⟨r_3, hq_4, hf⟩ := ob1_use hf
    refine r_callSN C h (cw_X2_changeValue_X4_isWithin_50 C.hts C.nw) (rest := []) (c_X4_isWithin l G cI cC cZ X x2 (0 : Int32) (255 : Int32) r_3 hq_4) [] rfl rfl rfl rfl hl.1 rfl (Nat.le_of_ble_eq_true rfl) ⟨Nat.le_of_ble_eq_true rfl, Nat.le_of_ble_eq_true rfl⟩ (wSt cI a0 a1 a2 a3 a4 a5 a6 a7 a8 nu va qu sc lo wt) rfl rfl dX2_changeValue_17 (fun H locs h => ?_)
    refine lv_if_ne (tgt := 26) hx hb dX2_changeValue_20 (by decide) (fun hc => ?_) (fun hc => ?_)
    · replace hf := it_f hf hc
      refine lv_aload_n hx hb dX2_changeValue_26 rfl (lv_at hl 0 rfl) ?_
      refine r_get C h 0 1 (ci := 2) (N := 6) (Cn := RX2) (T := TX2) rfl rfl (by decide) in_X2_changeValue_X2 lk_X2_changeValue_15 rfl dX2_changeValue_27 ?_
      refine lv_iload_n hx hb dX2_changeValue_30 rfl (lv_at hl 1 rfl) ?_
      obtain ⟨j_5, hj_5, hf⟩ := chk_use hf
      refine r_ald C h 2 rfl rfl hj_5 dX2_changeValue_31 ?_
      refine lv_topi (fun x3_6 ex3_6 => ?_)
      replace hf := nm_use hf ex3_6
      refine lv_istore_n (lv' := [(3, .int x3_6), (0, .ref a0), (1, .int x1), (2, .int x2)]) hx hb dX2_changeValue_32 rfl hl (by decide) rfl (fun ls hl => ?_)
      refine lv_aload_n hx hb dX2_changeValue_33 rfl (lv_at hl 1 rfl) ?_
      refine r_get C h 0 1 (ci := 2) (N := 6) (Cn := RX2) (T := TX2) rfl rfl (by decide) in_X2_changeValue_X2 lk_X2_changeValue_15 rfl dX2_changeValue_34 ?_
      refine lv_iload_n hx hb dX2_changeValue_37 rfl (lv_at hl 2 rfl) ?_
      refine lv_iload_n hx hb dX2_changeValue_38 rfl (lv_at hl 3 rfl) ?_
      obtain ⟨j_7, hj_7, hf⟩ := chk_use hf
      refine r_ast C h 2 rfl rfl hj_7 (fun z__ => (wSt cI a0 a1 a2 a3 a4 a5 a6 a7 a8 nu z__ qu sc lo wt)) (fun _ => rfl) dX2_changeValue_39 (fun va_8 eva_8 H locs h => ?_)
      replace hf := nm_use hf eva_8
      refine lv_iload_n hx hb dX2_changeValue_40 rfl (lv_at hl 0 rfl) ?_
      cases hf
      exact r_iret C h hr hlocks dX2_changeValue_41
    · replace hf := it_t hf hc
      refine lv_bipush (v := (-2)) hx hb dX2_changeValue_23 (by decide) ?_
      cases hf
      exact r_iret C h hr hlocks dX2_changeValue_25
  · replace hf := it_t hf hc
    refine lv_iconst (v := (-1)) hx hb dX2_changeValue_10 (by decide) ?_
    cases hf
    exact r_iret C h hr hlocks dX2_changeValue_11
def rm_X2_delayClock : Room := { frames := 1, cells := 0, slots := 0, locals := 22 }
set_option maxRecDepth 20000 in
theorem lk_X2_delayClock_9 : Cond.fieldLink RX2 9 "LineDoubler$State" "numbers" "[I" ∈ wsX2_delayClock := List.mem_of_getElem? (i := 1) (by decide +kernel)
set_option maxRecDepth 20000 in
theorem in_X2_delayClock_X2 : ∀ x ∈ wsX20, x ∈ wsX2_delayClock := mem_r _ [5, 6, 7, 8, 9, 10] (by decide +kernel)
set_option maxRecDepth 20000 in
theorem cw_X2_delayClock_X4_isWithin_50 {s : State} {args : Array Value} (hts : ∀ w ∈ wsX2_delayClock, w.before args s = true) (hnw : NW s) : va_CN rm_X2_delayClock s args RX2 50 yX4_isWithin "LineDoubler" cX4_isWithin 3 (some .boolean) wsX4_isWithin rm_X4_isWithin 0 0 3 ∧ (Cond.static yX4_isWithin).before args s = true ∧ True :=
  ⟨va_cnB 3 hts gX2_delayClock_X4_isWithin_n50 rfl rfl rfl (hnw.2.1 _ lkM_2_50) (hts _ (List.mem_of_getElem? (i := 3) (by decide +kernel))) (by decide +kernel) ⟨Nat.le_of_ble_eq_true rfl, Nat.le_of_ble_eq_true rfl⟩, hts _ (List.mem_of_getElem? (i := 2) (by decide +kernel)), trivial⟩
set_option maxHeartbeats 4000000 in
set_option maxRecDepth 100000 in
theorem c_X2_delayClock (l : Launch) (G : va_G) (cI cC cZ : ClassId) (X : List (ClassId × FieldType)) (a0 a1 a2 a3 a4 a5 a6 a7 a8 : Nat) (nu : Nat → Int32) (va : Nat → Int32) (qu : Nat → Int32) (sc : Nat → Int32) (lo : Nat → Int32) (wt : Int32) (x1 : Int32) (x2 : Int32) (rv : Int32) (nu' : Nat → Int32) (hf : fX2_delayClock nu x1 x2 = some (rv, nu')) : CT l yX2_delayClock wsX2_delayClock rm_X2_delayClock G (TY cI cC cZ X) [.ref a0, .int x1, .int x2] (wSt cI a0 a1 a2 a3 a4 a5 a6 a7 a8 nu va qu sc lo wt) (some (.int rv)) (wSt cI a0 a1 a2 a3 a4 a5 a6 a7 a8 nu' va qu sc lo wt) := by
  refine CT.of (cc := cX2_delayClock) (maxL := 4) (ret := (some .int)) RX2 rfl (by decide) rfl (Nat.le_of_ble_eq_true rfl) ?_
  intro p e s m args below meth c A ls C hr hlocks hnm h hl
  have hx := C.hx
  have hb := C.hb
  have hl : lv_has ls 4 [(0, .ref a0), (1, .int x1), (2, .int x2)] := hl
  unfold fX2_delayClock at hf
  refine lv_iload_n hx hb dX2_delayClock_0 rfl (lv_at hl 1 rfl) ?_
  refine lv_iconst (v := 0) hx hb dX2_delayClock_1 (by decide) ?_
  refine lv_iconst (v := 1) hx hb dX2_delayClock_2 (by decide) ?_
  obtain ⟨r_1, hq_2, hf⟩ := ob1_use hf
  refine r_callSN C h (cw_X2_delayClock_X4_isWithin_50 C.hts C.nw) (rest := []) (c_X4_isWithin l G cI cC cZ X x1 (0 : Int32) (1 : Int32) r_1 hq_2) [] rfl rfl rfl rfl hl.1 rfl (Nat.le_of_ble_eq_true rfl) ⟨Nat.le_of_ble_eq_true rfl, Nat.le_of_ble_eq_true rfl⟩ (wSt cI a0 a1 a2 a3 a4 a5 a6 a7 a8 nu va qu sc lo wt) rfl rfl dX2_delayClock_3 (fun H locs h => ?_)
  refine lv_if_eq (tgt := 19) hx hb dX2_delayClock_6 (by decide) (fun hc => ?_) (fun hc => ?_)
  · replace hf := it_t hf hc
    refine lv_bipush (v := (-2)) hx hb dX2_delayClock_19 (by decide) ?_
    cases hf
    exact r_iret C h hr hlocks dX2_delayClock_21
  · replace hf := it_f hf hc
    refine lv_iload_n hx hb dX2_delayClock_9 rfl (lv_at hl 2 rfl) ?_
    refine lv_iconst (v := 1) hx hb dX2_delayClock_10 (by decide) ?_
    refine lv_bipush (v := 99) hx hb dX2_delayClock_11 (by decide) ?_
    obtain ⟨r_3, hq_4, hf⟩ := ob1_use hf
    refine r_callSN C h (cw_X2_delayClock_X4_isWithin_50 C.hts C.nw) (rest := []) (c_X4_isWithin l G cI cC cZ X x2 (1 : Int32) (99 : Int32) r_3 hq_4) [] rfl rfl rfl rfl hl.1 rfl (Nat.le_of_ble_eq_true rfl) ⟨Nat.le_of_ble_eq_true rfl, Nat.le_of_ble_eq_true rfl⟩ (wSt cI a0 a1 a2 a3 a4 a5 a6 a7 a8 nu va qu sc lo wt) rfl rfl dX2_delayClock_13 (fun H locs h => ?_)
    refine lv_if_ne (tgt := 22) hx hb dX2_delayClock_16 (by decide) (fun hc => ?_) (fun hc => ?_)
    · replace hf := it_f hf hc
      refine lv_iload_n hx hb dX2_delayClock_22 rfl (lv_at hl 1 rfl) ?_
      refine lv_if_ne (tgt := 31) hx hb dX2_delayClock_23 (by decide) (fun hc => ?_) (fun hc => ?_)
      · replace hf := it_f hf hc
        refine lv_bipush (v := 11) hx hb dX2_delayClock_31 (by decide) ?_
        refine lv_istore_n (lv' := [(3, .int 11), (0, .ref a0), (1, .int x1), (2, .int x2)]) hx hb dX2_delayClock_33 rfl hl (by decide) rfl (fun ls hl => ?_)
        refine lv_aload_n hx hb dX2_delayClock_34 rfl (lv_at hl 1 rfl) ?_
        refine r_get C h 0 0 (ci := 2) (N := 6) (Cn := RX2) (T := TX2) rfl rfl (by decide) in_X2_delayClock_X2 lk_X2_delayClock_9 rfl dX2_delayClock_35 ?_
        refine lv_iload_n hx hb dX2_delayClock_38 rfl (lv_at hl 0 rfl) ?_
        refine lv_dup2_11 hx hb dX2_delayClock_39 rfl rfl ?_
        refine r_ald C h 1 rfl rfl k_11_24 dX2_delayClock_40 ?_
        refine lv_iload_n hx hb dX2_delayClock_41 rfl (lv_at hl 3 rfl) ?_
        refine lv_iadd hx hb dX2_delayClock_42 ?_
        refine r_ast C h 1 rfl rfl k_11_24 (fun z__ => (wSt cI a0 a1 a2 a3 a4 a5 a6 a7 a8 z__ va qu sc lo wt)) (fun _ => rfl) dX2_delayClock_43 (fun nu_5 enu_5 H locs h => ?_)
        replace hf := nm_use hf enu_5
        refine lv_aload_n hx hb dX2_delayClock_44 rfl (lv_at hl 1 rfl) ?_
        refine r_get C h 0 0 (ci := 2) (N := 6) (Cn := RX2) (T := TX2) rfl rfl (by decide) in_X2_delayClock_X2 lk_X2_delayClock_9 rfl dX2_delayClock_45 ?_
        refine lv_iload_n hx hb dX2_delayClock_48 rfl (lv_at hl 0 rfl) ?_
        refine r_ald C h 1 rfl rfl k_11_24 dX2_delayClock_49 ?_
        cases hf
        exact r_iret C h hr hlocks dX2_delayClock_50
      · replace hf := it_t hf hc
        refine lv_bipush (v := 10) hx hb dX2_delayClock_26 (by decide) ?_
        refine lv_goto (tgt := 33) hx hb dX2_delayClock_28 (by decide) ?_
        refine lv_istore_n (lv' := [(3, .int 10), (0, .ref a0), (1, .int x1), (2, .int x2)]) hx hb dX2_delayClock_33 rfl hl (by decide) rfl (fun ls hl => ?_)
        refine lv_aload_n hx hb dX2_delayClock_34 rfl (lv_at hl 1 rfl) ?_
        refine r_get C h 0 0 (ci := 2) (N := 6) (Cn := RX2) (T := TX2) rfl rfl (by decide) in_X2_delayClock_X2 lk_X2_delayClock_9 rfl dX2_delayClock_35 ?_
        refine lv_iload_n hx hb dX2_delayClock_38 rfl (lv_at hl 0 rfl) ?_
        refine lv_dup2_11 hx hb dX2_delayClock_39 rfl rfl ?_
        refine r_ald C h 1 rfl rfl k_10_24 dX2_delayClock_40 ?_
        refine lv_iload_n hx hb dX2_delayClock_41 rfl (lv_at hl 3 rfl) ?_
        refine lv_iadd hx hb dX2_delayClock_42 ?_
        refine r_ast C h 1 rfl rfl k_10_24 (fun z__ => (wSt cI a0 a1 a2 a3 a4 a5 a6 a7 a8 z__ va qu sc lo wt)) (fun _ => rfl) dX2_delayClock_43 (fun nu_6 enu_6 H locs h => ?_)
        replace hf := nm_use hf enu_6
        refine lv_aload_n hx hb dX2_delayClock_44 rfl (lv_at hl 1 rfl) ?_
        refine r_get C h 0 0 (ci := 2) (N := 6) (Cn := RX2) (T := TX2) rfl rfl (by decide) in_X2_delayClock_X2 lk_X2_delayClock_9 rfl dX2_delayClock_45 ?_
        refine lv_iload_n hx hb dX2_delayClock_48 rfl (lv_at hl 0 rfl) ?_
        refine r_ald C h 1 rfl rfl k_10_24 dX2_delayClock_49 ?_
        cases hf
        exact r_iret C h hr hlocks dX2_delayClock_50
    · replace hf := it_t hf hc
      refine lv_bipush (v := (-2)) hx hb dX2_delayClock_19 (by decide) ?_
      cases hf
      exact r_iret C h hr hlocks dX2_delayClock_21
def rm_X2_nextLineWaits : Room := { frames := 2, cells := 0, slots := 0, locals := 43 }
set_option maxRecDepth 20000 in
theorem lk_X2_nextLineWaits_9 : Cond.fieldLink RX2 9 "LineDoubler$State" "numbers" "[I" ∈ wsX2_nextLineWaits := List.mem_of_getElem? (i := 1) (by decide +kernel)
set_option maxRecDepth 20000 in
theorem lk_X2_nextLineWaits_23 : Cond.fieldLink RX2 23 "LineDoubler$State" "queue" "LLineDoubler$Table;" ∈ wsX2_nextLineWaits := List.mem_of_getElem? (i := 3) (by decide +kernel)
set_option maxRecDepth 20000 in
theorem lk_X2_nextLineWaits_15 : Cond.fieldLink RX2 15 "LineDoubler$State" "values" "[I" ∈ wsX2_nextLineWaits := List.mem_of_getElem? (i := 2) (by decide +kernel)
set_option maxRecDepth 20000 in
theorem in_X2_nextLineWaits_X2 : ∀ x ∈ wsX20, x ∈ wsX2_nextLineWaits := mem_r _ [19, 20, 21, 22, 23, 24] (by decide +kernel)
set_option maxRecDepth 20000 in
theorem cw_X2_nextLineWaits_X4_isWithin_50 {s : State} {args : Array Value} (hts : ∀ w ∈ wsX2_nextLineWaits, w.before args s = true) (hnw : NW s) : va_CN rm_X2_nextLineWaits s args RX2 50 yX4_isWithin "LineDoubler" cX4_isWithin 3 (some .boolean) wsX4_isWithin rm_X4_isWithin 0 0 3 ∧ (Cond.static yX4_isWithin).before args s = true ∧ True :=
  ⟨va_cnB 3 hts gX2_nextLineWaits_X4_isWithin_n50 rfl rfl rfl (hnw.2.1 _ lkM_2_50) (hts _ (List.mem_of_getElem? (i := 5) (by decide +kernel))) (by decide +kernel) ⟨Nat.le_of_ble_eq_true rfl, Nat.le_of_ble_eq_true rfl⟩, hts _ (List.mem_of_getElem? (i := 4) (by decide +kernel)), trivial⟩
set_option maxRecDepth 20000 in
theorem cw_X2_nextLineWaits_X3_write_90 {s : State} {args : Array Value} (hts : ∀ w ∈ wsX2_nextLineWaits, w.before args s = true) : CallW rm_X2_nextLineWaits s args RX2 RX3 90 yX3_write cX3_write 5 none wsX3_write rm_X3_write 0 0 3 :=
  cwV 3 hts gX2_nextLineWaits_X3_write rfl rfl rfl (by decide +kernel) ⟨Nat.le_of_ble_eq_true rfl, Nat.le_of_ble_eq_true rfl⟩
set_option maxRecDepth 20000 in
theorem cw_X2_nextLineWaits_X2_setting_54 {s : State} {args : Array Value} (hts : ∀ w ∈ wsX2_nextLineWaits, w.before args s = true) : CallW rm_X2_nextLineWaits s args RX2 RX2 54 yX2_setting cX2_setting 2 (some .int) wsX2_setting rm_X2_setting 0 0 1 :=
  cwV 1 hts gX2_nextLineWaits_X2_setting rfl rfl rfl (by decide +kernel) ⟨Nat.le_of_ble_eq_true rfl, Nat.le_of_ble_eq_true rfl⟩
set_option maxHeartbeats 4000000 in
set_option maxRecDepth 100000 in
theorem c_X2_nextLineWaits (l : Launch) (G : va_G) (cI cC cZ : ClassId) (X : List (ClassId × FieldType)) (a0 a1 a2 a3 a4 a5 a6 a7 a8 : Nat) (nu : Nat → Int32) (va : Nat → Int32) (qu : Nat → Int32) (sc : Nat → Int32) (lo : Nat → Int32) (wt : Int32) (nu' : Nat → Int32) (qu' : Nat → Int32) (hf : fX2_nextLineWaits nu va qu = some (nu', qu')) : CT l yX2_nextLineWaits wsX2_nextLineWaits rm_X2_nextLineWaits G (TY cI cC cZ X) [.ref a0] (wSt cI a0 a1 a2 a3 a4 a5 a6 a7 a8 nu va qu sc lo wt) none (wSt cI a0 a1 a2 a3 a4 a5 a6 a7 a8 nu' va qu' sc lo wt) := by
  refine CT.of (cc := cX2_nextLineWaits) (maxL := 5) (ret := none) RX2 rfl (by decide) rfl (Nat.le_of_ble_eq_true rfl) ?_
  intro p e s m args below meth c A ls C hr hlocks hnm h hl
  have hx := C.hx
  have hb := C.hb
  have hl : lv_has ls 5 [(0, .ref a0)] := hl
  unfold fX2_nextLineWaits at hf
  refine lv_aload_n hx hb dX2_nextLineWaits_0 rfl (lv_at hl 0 rfl) ?_
  refine r_get C h 0 0 (ci := 2) (N := 6) (Cn := RX2) (T := TX2) rfl rfl (by decide) in_X2_nextLineWaits_X2 lk_X2_nextLineWaits_9 rfl dX2_nextLineWaits_1 ?_
  refine lv_iconst (v := 2) hx hb dX2_nextLineWaits_4 (by decide) ?_
  refine r_ald C h 1 rfl rfl k_2_24 dX2_nextLineWaits_5 ?_
  refine lv_topi (fun x1_1 ex1_1 => ?_)
  replace hf := nm_use hf ex1_1
  refine lv_istore_n (lv' := [(1, .int x1_1), (0, .ref a0)]) hx hb dX2_nextLineWaits_6 rfl hl (by decide) rfl (fun ls hl => ?_)
  refine lv_aload_n hx hb dX2_nextLineWaits_7 rfl (lv_at hl 1 rfl) ?_
  refine r_get C h 0 0 (ci := 2) (N := 6) (Cn := RX2) (T := TX2) rfl rfl (by decide) in_X2_nextLineWaits_X2 lk_X2_nextLineWaits_9 rfl dX2_nextLineWaits_8 ?_
  refine lv_bipush (v := 9) hx hb dX2_nextLineWaits_11 (by decide) ?_
  refine r_ald C h 1 rfl rfl k_9_24 dX2_nextLineWaits_13 ?_
  refine lv_topi (fun x2_2 ex2_2 => ?_)
  replace hf := nm_use hf ex2_2
  refine lv_istore_n (lv' := [(2, .int x2_2), (1, .int x1_1), (0, .ref a0)]) hx hb dX2_nextLineWaits_14 rfl hl (by decide) rfl (fun ls hl => ?_)
  refine lv_aload_n hx hb dX2_nextLineWaits_15 rfl (lv_at hl 2 rfl) ?_
  refine r_get C h 0 0 (ci := 2) (N := 6) (Cn := RX2) (T := TX2) rfl rfl (by decide) in_X2_nextLineWaits_X2 lk_X2_nextLineWaits_9 rfl dX2_nextLineWaits_16 ?_
  refine lv_bipush (v := 8) hx hb dX2_nextLineWaits_19 (by decide) ?_
  refine r_ald C h 1 rfl rfl k_8_24 dX2_nextLineWaits_21 ?_
  refine lv_topi (fun x3_3 ex3_3 => ?_)
  replace hf := nm_use hf ex3_3
  refine lv_istore_n (lv' := [(3, .int x3_3), (2, .int x2_2), (1, .int x1_1), (0, .ref a0)]) hx hb dX2_nextLineWaits_22 rfl hl (by decide) rfl (fun ls hl => ?_)
  refine lv_iload_n hx hb dX2_nextLineWaits_23 rfl (lv_at hl 0 rfl) ?_
  refine lv_iconst (v := 0) hx hb dX2_nextLineWaits_24 (by decide) ?_
  refine lv_bipush (v := 15) hx hb dX2_nextLineWaits_25 (by decide) ?_
  obtain ⟨r_4, hq_5, hf⟩ := ob1_use hf
  refine r_callSN C h (cw_X2_nextLineWaits_X4_isWithin_50 C.hts C.nw) (rest := []) (c_X4_isWithin l G cI cC cZ X x3_3 (0 : Int32) (15 : Int32) r_4 hq_5) [] rfl rfl rfl rfl hl.1 rfl (Nat.le_of_ble_eq_true rfl) ⟨Nat.le_of_ble_eq_true rfl, Nat.le_of_ble_eq_true rfl⟩ (wSt cI a0 a1 a2 a3 a4 a5 a6 a7 a8 nu va qu sc lo wt) rfl rfl dX2_nextLineWaits_27 (fun H locs h => ?_)
  refine lv_if_eq (tgt := 51) hx hb dX2_nextLineWaits_30 (by decide) (fun hc => ?_) (fun hc => ?_)
  · replace hf := it_t hf hc
    refine lv_iconst (v := 0) hx hb dX2_nextLineWaits_51 (by decide) ?_
    refine lv_istore (lv' := [(4, .int 0), (3, .int x3_3), (2, .int x2_2), (1, .int x1_1), (0, .ref a0)]) hx hb dX2_nextLineWaits_52 hl (by decide) rfl (fun ls hl => ?_)
    refine lv_aload_n hx hb dX2_nextLineWaits_54 rfl (lv_at hl 4 rfl) ?_
    refine r_get C h 0 2 (ci := 2) (N := 6) (Cn := RX2) (T := TX2) rfl rfl (by decide) in_X2_nextLineWaits_X2 lk_X2_nextLineWaits_23 rfl dX2_nextLineWaits_55 ?_
    refine lv_iload_n hx hb dX2_nextLineWaits_58 rfl (lv_at hl 3 rfl) ?_
    refine lv_iconst (v := 0) hx hb dX2_nextLineWaits_59 (by decide) ?_
    refine lv_iload_n hx hb dX2_nextLineWaits_60 rfl (lv_at hl 2 rfl) ?_
    obtain ⟨qu_6, hq_7, hf⟩ := ob1_use hf
    refine r_callV C h (cw_X2_nextLineWaits_X3_write_90 C.hts) (rest := []) (ci := 3) (N := 2) (Cn := RX3) (T := TX3) (c_X3_write l G cI cC cZ X a3 a4 4 68 qu x1_1 (0 : Int32) x2_2 qu_6 hq_7) [3, 4] rfl rfl rfl rfl 3 rfl rfl hl.1 rfl (Nat.le_of_ble_eq_true rfl) ⟨Nat.le_of_ble_eq_true rfl, Nat.le_of_ble_eq_true rfl⟩ (wSt cI a0 a1 a2 a3 a4 a5 a6 a7 a8 nu va qu_6 sc lo wt) rfl rfl dX2_nextLineWaits_61 (fun H locs h => ?_)
    refine lv_aload_n hx hb dX2_nextLineWaits_64 rfl (lv_at hl 4 rfl) ?_
    refine r_get C h 0 2 (ci := 2) (N := 6) (Cn := RX2) (T := TX2) rfl rfl (by decide) in_X2_nextLineWaits_X2 lk_X2_nextLineWaits_23 rfl dX2_nextLineWaits_65 ?_
    refine lv_iload_n hx hb dX2_nextLineWaits_68 rfl (lv_at hl 3 rfl) ?_
    refine lv_iconst (v := 1) hx hb dX2_nextLineWaits_69 (by decide) ?_
    refine lv_iload_n hx hb dX2_nextLineWaits_70 rfl (lv_at hl 1 rfl) ?_
    obtain ⟨qu_8, hq_9, hf⟩ := ob1_use hf
    refine r_callV C h (cw_X2_nextLineWaits_X3_write_90 C.hts) (rest := []) (ci := 3) (N := 2) (Cn := RX3) (T := TX3) (c_X3_write l G cI cC cZ X a3 a4 4 68 qu_6 x1_1 (1 : Int32) x3_3 qu_8 hq_9) [3, 4] rfl rfl rfl rfl 3 rfl rfl hl.1 rfl (Nat.le_of_ble_eq_true rfl) ⟨Nat.le_of_ble_eq_true rfl, Nat.le_of_ble_eq_true rfl⟩ (wSt cI a0 a1 a2 a3 a4 a5 a6 a7 a8 nu va qu_8 sc lo wt) rfl rfl dX2_nextLineWaits_71 (fun H locs h => ?_)
    refine lv_aload_n hx hb dX2_nextLineWaits_74 rfl (lv_at hl 4 rfl) ?_
    refine r_get C h 0 2 (ci := 2) (N := 6) (Cn := RX2) (T := TX2) rfl rfl (by decide) in_X2_nextLineWaits_X2 lk_X2_nextLineWaits_23 rfl dX2_nextLineWaits_75 ?_
    refine lv_iload_n hx hb dX2_nextLineWaits_78 rfl (lv_at hl 3 rfl) ?_
    refine lv_iconst (v := 2) hx hb dX2_nextLineWaits_79 (by decide) ?_
    refine lv_iload hx hb dX2_nextLineWaits_80 (lv_at hl 0 rfl) ?_
    refine lv_sipush (v := 255) hx hb dX2_nextLineWaits_82 (by decide) ?_
    refine lv_iand hx hb dX2_nextLineWaits_85 ?_
    obtain ⟨qu_10, hq_11, hf⟩ := ob1_use hf
    refine r_callV C h (cw_X2_nextLineWaits_X3_write_90 C.hts) (rest := []) (ci := 3) (N := 2) (Cn := RX3) (T := TX3) (c_X3_write l G cI cC cZ X a3 a4 4 68 qu_8 x1_1 (2 : Int32) ((0 : Int32) &&& 255) qu_10 hq_11) [3, 4] rfl rfl rfl rfl 3 rfl rfl hl.1 rfl (Nat.le_of_ble_eq_true rfl) ⟨Nat.le_of_ble_eq_true rfl, Nat.le_of_ble_eq_true rfl⟩ (wSt cI a0 a1 a2 a3 a4 a5 a6 a7 a8 nu va qu_10 sc lo wt) rfl rfl dX2_nextLineWaits_86 (fun H locs h => ?_)
    refine lv_aload_n hx hb dX2_nextLineWaits_89 rfl (lv_at hl 4 rfl) ?_
    refine r_get C h 0 2 (ci := 2) (N := 6) (Cn := RX2) (T := TX2) rfl rfl (by decide) in_X2_nextLineWaits_X2 lk_X2_nextLineWaits_23 rfl dX2_nextLineWaits_90 ?_
    refine lv_iload_n hx hb dX2_nextLineWaits_93 rfl (lv_at hl 3 rfl) ?_
    refine lv_iconst (v := 3) hx hb dX2_nextLineWaits_94 (by decide) ?_
    refine lv_iconst (v := 0) hx hb dX2_nextLineWaits_95 (by decide) ?_
    obtain ⟨qu_12, hq_13, hf⟩ := ob1_use hf
    refine r_callV C h (cw_X2_nextLineWaits_X3_write_90 C.hts) (rest := []) (ci := 3) (N := 2) (Cn := RX3) (T := TX3) (c_X3_write l G cI cC cZ X a3 a4 4 68 qu_10 x1_1 (3 : Int32) (0 : Int32) qu_12 hq_13) [3, 4] rfl rfl rfl rfl 3 rfl rfl hl.1 rfl (Nat.le_of_ble_eq_true rfl) ⟨Nat.le_of_ble_eq_true rfl, Nat.le_of_ble_eq_true rfl⟩ (wSt cI a0 a1 a2 a3 a4 a5 a6 a7 a8 nu va qu_12 sc lo wt) rfl rfl dX2_nextLineWaits_96 (fun H locs h => ?_)
    refine lv_aload_n hx hb dX2_nextLineWaits_99 rfl (lv_at hl 4 rfl) ?_
    refine r_get C h 0 0 (ci := 2) (N := 6) (Cn := RX2) (T := TX2) rfl rfl (by decide) in_X2_nextLineWaits_X2 lk_X2_nextLineWaits_9 rfl dX2_nextLineWaits_100 ?_
    refine lv_iconst (v := 2) hx hb dX2_nextLineWaits_103 (by decide) ?_
    refine lv_dup2_11 hx hb dX2_nextLineWaits_104 rfl rfl ?_
    refine r_ald C h 1 rfl rfl k_2_24 dX2_nextLineWaits_105 ?_
    refine lv_iconst (v := 1) hx hb dX2_nextLineWaits_106 (by decide) ?_
    refine lv_iadd hx hb dX2_nextLineWaits_107 ?_
    refine r_ast C h 1 rfl rfl k_2_24 (fun z__ => (wSt cI a0 a1 a2 a3 a4 a5 a6 a7 a8 z__ va qu_12 sc lo wt)) (fun _ => rfl) dX2_nextLineWaits_108 (fun nu_14 enu_14 H locs h => ?_)
    replace hf := nm_use hf enu_14
    cases hf
    exact r_vret C h hr hlocks dX2_nextLineWaits_109
  · replace hf := it_f hf hc
    refine lv_aload_n hx hb dX2_nextLineWaits_33 rfl (lv_at hl 3 rfl) ?_
    refine r_get C h 0 1 (ci := 2) (N := 6) (Cn := RX2) (T := TX2) rfl rfl (by decide) in_X2_nextLineWaits_X2 lk_X2_nextLineWaits_15 rfl dX2_nextLineWaits_34 ?_
    refine lv_iload_n hx hb dX2_nextLineWaits_37 rfl (lv_at hl 0 rfl) ?_
    obtain ⟨j_15, hj_15, hf⟩ := chk_use hf
    refine r_ald C h 2 rfl rfl hj_15 dX2_nextLineWaits_38 ?_
    refine lv_aload_n hx hb dX2_nextLineWaits_39 rfl (lv_at hl 3 rfl) ?_
    refine lv_bipush (v := 7) hx hb dX2_nextLineWaits_40 (by decide) ?_
    obtain ⟨r_16, hq_17, hf⟩ := ob1_use hf
    refine r_callV C h (cw_X2_nextLineWaits_X2_setting_54 C.hts) (rest := [.int (va j_15)]) (ci := 2) (N := 6) (Cn := RX2) (T := TX2) (c_X2_setting l G cI cC cZ X a0 a1 a2 a3 a4 a5 a6 a7 a8 nu va qu sc lo wt (7 : Int32) r_16 hq_17) [0, 1, 2, 3, 4, 5, 6, 7, 8] rfl rfl rfl rfl 0 rfl rfl hl.1 rfl (Nat.le_of_ble_eq_true rfl) ⟨Nat.le_of_ble_eq_true rfl, Nat.le_of_ble_eq_true rfl⟩ (wSt cI a0 a1 a2 a3 a4 a5 a6 a7 a8 nu va qu sc lo wt) rfl rfl dX2_nextLineWaits_42 (fun H locs h => ?_)
    refine lv_iload_n hx hb dX2_nextLineWaits_45 rfl (lv_at hl 1 rfl) ?_
    refine lv_imul hx hb dX2_nextLineWaits_46 ?_
    refine lv_iadd hx hb dX2_nextLineWaits_47 ?_
    refine lv_goto (tgt := 52) hx hb dX2_nextLineWaits_48 (by decide) ?_
    refine lv_topi (fun x4_18 ex4_18 => ?_)
    replace hf := nm_use hf ex4_18
    refine lv_istore (lv' := [(4, .int x4_18), (3, .int x3_3), (2, .int x2_2), (1, .int x1_1), (0, .ref a0)]) hx hb dX2_nextLineWaits_52 hl (by decide) rfl (fun ls hl => ?_)
    refine lv_aload_n hx hb dX2_nextLineWaits_54 rfl (lv_at hl 4 rfl) ?_
    refine r_get C h 0 2 (ci := 2) (N := 6) (Cn := RX2) (T := TX2) rfl rfl (by decide) in_X2_nextLineWaits_X2 lk_X2_nextLineWaits_23 rfl dX2_nextLineWaits_55 ?_
    refine lv_iload_n hx hb dX2_nextLineWaits_58 rfl (lv_at hl 3 rfl) ?_
    refine lv_iconst (v := 0) hx hb dX2_nextLineWaits_59 (by decide) ?_
    refine lv_iload_n hx hb dX2_nextLineWaits_60 rfl (lv_at hl 2 rfl) ?_
    obtain ⟨qu_19, hq_20, hf⟩ := ob1_use hf
    refine r_callV C h (cw_X2_nextLineWaits_X3_write_90 C.hts) (rest := []) (ci := 3) (N := 2) (Cn := RX3) (T := TX3) (c_X3_write l G cI cC cZ X a3 a4 4 68 qu x1_1 (0 : Int32) x2_2 qu_19 hq_20) [3, 4] rfl rfl rfl rfl 3 rfl rfl hl.1 rfl (Nat.le_of_ble_eq_true rfl) ⟨Nat.le_of_ble_eq_true rfl, Nat.le_of_ble_eq_true rfl⟩ (wSt cI a0 a1 a2 a3 a4 a5 a6 a7 a8 nu va qu_19 sc lo wt) rfl rfl dX2_nextLineWaits_61 (fun H locs h => ?_)
    refine lv_aload_n hx hb dX2_nextLineWaits_64 rfl (lv_at hl 4 rfl) ?_
    refine r_get C h 0 2 (ci := 2) (N := 6) (Cn := RX2) (T := TX2) rfl rfl (by decide) in_X2_nextLineWaits_X2 lk_X2_nextLineWaits_23 rfl dX2_nextLineWaits_65 ?_
    refine lv_iload_n hx hb dX2_nextLineWaits_68 rfl (lv_at hl 3 rfl) ?_
    refine lv_iconst (v := 1) hx hb dX2_nextLineWaits_69 (by decide) ?_
    refine lv_iload_n hx hb dX2_nextLineWaits_70 rfl (lv_at hl 1 rfl) ?_
    obtain ⟨qu_21, hq_22, hf⟩ := ob1_use hf
    refine r_callV C h (cw_X2_nextLineWaits_X3_write_90 C.hts) (rest := []) (ci := 3) (N := 2) (Cn := RX3) (T := TX3) (c_X3_write l G cI cC cZ X a3 a4 4 68 qu_19 x1_1 (1 : Int32) x3_3 qu_21 hq_22) [3, 4] rfl rfl rfl rfl 3 rfl rfl hl.1 rfl (Nat.le_of_ble_eq_true rfl) ⟨Nat.le_of_ble_eq_true rfl, Nat.le_of_ble_eq_true rfl⟩ (wSt cI a0 a1 a2 a3 a4 a5 a6 a7 a8 nu va qu_21 sc lo wt) rfl rfl dX2_nextLineWaits_71 (fun H locs h => ?_)
    refine lv_aload_n hx hb dX2_nextLineWaits_74 rfl (lv_at hl 4 rfl) ?_
    refine r_get C h 0 2 (ci := 2) (N := 6) (Cn := RX2) (T := TX2) rfl rfl (by decide) in_X2_nextLineWaits_X2 lk_X2_nextLineWaits_23 rfl dX2_nextLineWaits_75 ?_
    refine lv_iload_n hx hb dX2_nextLineWaits_78 rfl (lv_at hl 3 rfl) ?_
    refine lv_iconst (v := 2) hx hb dX2_nextLineWaits_79 (by decide) ?_
    refine lv_iload hx hb dX2_nextLineWaits_80 (lv_at hl 0 rfl) ?_
    refine lv_sipush (v := 255) hx hb dX2_nextLineWaits_82 (by decide) ?_
    refine lv_iand hx hb dX2_nextLineWaits_85 ?_
    obtain ⟨qu_23, hq_24, hf⟩ := ob1_use hf
    refine r_callV C h (cw_X2_nextLineWaits_X3_write_90 C.hts) (rest := []) (ci := 3) (N := 2) (Cn := RX3) (T := TX3) (c_X3_write l G cI cC cZ X a3 a4 4 68 qu_21 x1_1 (2 : Int32) (x4_18 &&& 255) qu_23 hq_24) [3, 4] rfl rfl rfl rfl 3 rfl rfl hl.1 rfl (Nat.le_of_ble_eq_true rfl) ⟨Nat.le_of_ble_eq_true rfl, Nat.le_of_ble_eq_true rfl⟩ (wSt cI a0 a1 a2 a3 a4 a5 a6 a7 a8 nu va qu_23 sc lo wt) rfl rfl dX2_nextLineWaits_86 (fun H locs h => ?_)
    refine lv_aload_n hx hb dX2_nextLineWaits_89 rfl (lv_at hl 4 rfl) ?_
    refine r_get C h 0 2 (ci := 2) (N := 6) (Cn := RX2) (T := TX2) rfl rfl (by decide) in_X2_nextLineWaits_X2 lk_X2_nextLineWaits_23 rfl dX2_nextLineWaits_90 ?_
    refine lv_iload_n hx hb dX2_nextLineWaits_93 rfl (lv_at hl 3 rfl) ?_
    refine lv_iconst (v := 3) hx hb dX2_nextLineWaits_94 (by decide) ?_
    refine lv_iconst (v := 0) hx hb dX2_nextLineWaits_95 (by decide) ?_
    obtain ⟨qu_25, hq_26, hf⟩ := ob1_use hf
    refine r_callV C h (cw_X2_nextLineWaits_X3_write_90 C.hts) (rest := []) (ci := 3) (N := 2) (Cn := RX3) (T := TX3) (c_X3_write l G cI cC cZ X a3 a4 4 68 qu_23 x1_1 (3 : Int32) (0 : Int32) qu_25 hq_26) [3, 4] rfl rfl rfl rfl 3 rfl rfl hl.1 rfl (Nat.le_of_ble_eq_true rfl) ⟨Nat.le_of_ble_eq_true rfl, Nat.le_of_ble_eq_true rfl⟩ (wSt cI a0 a1 a2 a3 a4 a5 a6 a7 a8 nu va qu_25 sc lo wt) rfl rfl dX2_nextLineWaits_96 (fun H locs h => ?_)
    refine lv_aload_n hx hb dX2_nextLineWaits_99 rfl (lv_at hl 4 rfl) ?_
    refine r_get C h 0 0 (ci := 2) (N := 6) (Cn := RX2) (T := TX2) rfl rfl (by decide) in_X2_nextLineWaits_X2 lk_X2_nextLineWaits_9 rfl dX2_nextLineWaits_100 ?_
    refine lv_iconst (v := 2) hx hb dX2_nextLineWaits_103 (by decide) ?_
    refine lv_dup2_11 hx hb dX2_nextLineWaits_104 rfl rfl ?_
    refine r_ald C h 1 rfl rfl k_2_24 dX2_nextLineWaits_105 ?_
    refine lv_iconst (v := 1) hx hb dX2_nextLineWaits_106 (by decide) ?_
    refine lv_iadd hx hb dX2_nextLineWaits_107 ?_
    refine r_ast C h 1 rfl rfl k_2_24 (fun z__ => (wSt cI a0 a1 a2 a3 a4 a5 a6 a7 a8 z__ va qu_25 sc lo wt)) (fun _ => rfl) dX2_nextLineWaits_108 (fun nu_27 enu_27 H locs h => ?_)
    replace hf := nm_use hf enu_27
    cases hf
    exact r_vret C h hr hlocks dX2_nextLineWaits_109
def rm_X2_firstNotOut : Room := { frames := 1, cells := 0, slots := 0, locals := 23 }
set_option maxRecDepth 20000 in
theorem lk_X2_firstNotOut_9 : Cond.fieldLink RX2 9 "LineDoubler$State" "numbers" "[I" ∈ wsX2_firstNotOut := List.mem_of_getElem? (i := 1) (by decide +kernel)
set_option maxRecDepth 20000 in
theorem lk_X2_firstNotOut_23 : Cond.fieldLink RX2 23 "LineDoubler$State" "queue" "LLineDoubler$Table;" ∈ wsX2_firstNotOut := List.mem_of_getElem? (i := 2) (by decide +kernel)
set_option maxRecDepth 20000 in
theorem in_X2_firstNotOut_X2 : ∀ x ∈ wsX20, x ∈ wsX2_firstNotOut := mem_r _ [10, 11, 12, 13, 14, 15] (by decide +kernel)
set_option maxRecDepth 20000 in
theorem cw_X2_firstNotOut_X3_read_93 {s : State} {args : Array Value} (hts : ∀ w ∈ wsX2_firstNotOut, w.before args s = true) : CallW rm_X2_firstNotOut s args RX2 RX3 93 yX3_read cX3_read 4 (some .int) wsX3_read rm_X3_read 0 0 2 :=
  cwV 2 hts gX2_firstNotOut_X3_read rfl rfl rfl (by decide +kernel) ⟨Nat.le_of_ble_eq_true rfl, Nat.le_of_ble_eq_true rfl⟩
set_option maxHeartbeats 4000000 in
set_option maxRecDepth 100000 in
theorem c_X2_firstNotOut (l : Launch) (G : va_G) (cI cC cZ : ClassId) (X : List (ClassId × FieldType)) (a0 a1 a2 a3 a4 a5 a6 a7 a8 : Nat) (nu : Nat → Int32) (va : Nat → Int32) (qu : Nat → Int32) (sc : Nat → Int32) (lo : Nat → Int32) (wt : Int32) (rv : Int32) (hf : fX2_firstNotOut nu qu = some (rv)) : CT l yX2_firstNotOut wsX2_firstNotOut rm_X2_firstNotOut G (TY cI cC cZ X) [.ref a0] (wSt cI a0 a1 a2 a3 a4 a5 a6 a7 a8 nu va qu sc lo wt) (some (.int rv)) (wSt cI a0 a1 a2 a3 a4 a5 a6 a7 a8 nu va qu sc lo wt) := by
  refine CT.of (cc := cX2_firstNotOut) (maxL := 2) (ret := (some .int)) RX2 rfl (by decide) rfl (Nat.le_of_ble_eq_true rfl) ?_
  intro p e s m args below meth c A ls C hr hlocks hnm h hl
  have hx := C.hx
  have hb := C.hb
  have hl : lv_has ls 2 [(0, .ref a0)] := hl
  have cut_2 : ∀ (n : Nat) (x1 : Int32) (H : Heap) (locs : List Loc) (ls : Array Slot), Hx s G A (wSt cI a0 a1 a2 a3 a4 a5 a6 a7 a8 nu va qu sc lo wt) H locs → lv_has ls 2 [(0, .ref a0), (1, .int x1)] → fX2_firstNotOut_2 n nu qu x1 = some (rv) → W p l e rm_X2_firstNotOut s m args below meth c H locs 0 0 (MQ below (Qx G (some (.int rv)) (wSt cI a0 a1 a2 a3 a4 a5 a6 a7 a8 nu va qu sc lo wt) A) args s 0 0 A) (F0 m 2 ls []) := by
    intro n
    induction n with
    | zero =>
      intro x1 H locs ls h hl hf
      exact (nn_some _ hf).elim
    | succ n ih =>
      intro x1 H locs ls h hl hf
      have hf : fX2_firstNotOut_2_b (fX2_firstNotOut_2 n) nu qu x1 = some (rv) := hf
      unfold fX2_firstNotOut_2_b at hf
      refine lv_iload_n hx hb dX2_firstNotOut_2 rfl (lv_at hl 1 rfl) ?_
      refine lv_aload_n hx hb dX2_firstNotOut_3 rfl (lv_at hl 0 rfl) ?_
      refine r_get C h 0 0 (ci := 2) (N := 6) (Cn := RX2) (T := TX2) rfl rfl (by decide) in_X2_firstNotOut_X2 lk_X2_firstNotOut_9 rfl dX2_firstNotOut_4 ?_
      refine lv_iconst (v := 2) hx hb dX2_firstNotOut_7 (by decide) ?_
      refine r_ald C h 1 rfl rfl k_2_24 dX2_firstNotOut_8 ?_
      refine lv_iconst (v := 1) hx hb dX2_firstNotOut_9 (by decide) ?_
      refine lv_isub hx hb dX2_firstNotOut_10 ?_
      refine lv_icmp_ge (tgt := 32) hx hb dX2_firstNotOut_11 (by decide) (fun hc => ?_) (fun hc => ?_)
      · replace hf := it_t hf hc
        refine lv_iload_n hx hb dX2_firstNotOut_32 rfl (lv_at hl 1 rfl) ?_
        cases hf
        exact r_iret C h hr hlocks dX2_firstNotOut_33
      · replace hf := it_f hf hc
        refine lv_aload_n hx hb dX2_firstNotOut_14 rfl (lv_at hl 0 rfl) ?_
        refine r_get C h 0 2 (ci := 2) (N := 6) (Cn := RX2) (T := TX2) rfl rfl (by decide) in_X2_firstNotOut_X2 lk_X2_firstNotOut_23 rfl dX2_firstNotOut_15 ?_
        refine lv_iload_n hx hb dX2_firstNotOut_18 rfl (lv_at hl 1 rfl) ?_
        refine lv_iconst (v := 3) hx hb dX2_firstNotOut_19 (by decide) ?_
        obtain ⟨r_1, hq_2, hf⟩ := ob1_use hf
        refine r_callV C h (cw_X2_firstNotOut_X3_read_93 C.hts) (rest := []) (ci := 3) (N := 2) (Cn := RX3) (T := TX3) (c_X3_read l G cI cC cZ X a3 a4 4 68 qu x1 (3 : Int32) r_1 hq_2) [3, 4] rfl rfl rfl rfl 3 rfl rfl hl.1 rfl (Nat.le_of_ble_eq_true rfl) ⟨Nat.le_of_ble_eq_true rfl, Nat.le_of_ble_eq_true rfl⟩ (wSt cI a0 a1 a2 a3 a4 a5 a6 a7 a8 nu va qu sc lo wt) rfl rfl dX2_firstNotOut_20 (fun H locs h => ?_)
        refine lv_if_eq (tgt := 32) hx hb dX2_firstNotOut_23 (by decide) (fun hc => ?_) (fun hc => ?_)
        · replace hf := it_t hf hc
          refine lv_iload_n hx hb dX2_firstNotOut_32 rfl (lv_at hl 1 rfl) ?_
          cases hf
          exact r_iret C h hr hlocks dX2_firstNotOut_33
        · replace hf := it_f hf hc
          obtain ⟨x1_3, ex1_3⟩ : ∃ y : Int32, y = x1 + 1 := ⟨_, rfl⟩
          replace hf := nm_use hf ex1_3
          refine lv_iinc (v := x1_3) (lv' := [(1, .int x1_3), (0, .ref a0)]) hx hb dX2_firstNotOut_26 hl (k := 1) rfl (by rw [ex1_3]; rfl) (by decide) rfl (fun ls hl => ?_)
          refine lv_goto (tgt := 2) hx hb dX2_firstNotOut_29 (by decide) ?_
          exact ih x1_3 _ _ _ h (lv_sub hl [1, 0] rfl) hf
  unfold fX2_firstNotOut at hf
  refine lv_iconst (v := 0) hx hb dX2_firstNotOut_0 (by decide) ?_
  refine lv_istore_n (lv' := [(1, .int 0), (0, .ref a0)]) hx hb dX2_firstNotOut_1 rfl hl (by decide) rfl (fun ls hl => ?_)
  exact cut_2 KF 0 _ _ _ h (lv_sub hl [1, 0] rfl) hf
def rm_X2_loseWaiting : Room := { frames := 2, cells := 0, slots := 0, locals := 41 }
set_option maxRecDepth 20000 in
theorem lk_X2_loseWaiting_9 : Cond.fieldLink RX2 9 "LineDoubler$State" "numbers" "[I" ∈ wsX2_loseWaiting := List.mem_of_getElem? (i := 1) (by decide +kernel)
set_option maxRecDepth 20000 in
theorem lk_X2_loseWaiting_30 : Cond.fieldLink RX2 30 "LineDoubler$State" "lost" "LLineDoubler$Table;" ∈ wsX2_loseWaiting := List.mem_of_getElem? (i := 2) (by decide +kernel)
set_option maxRecDepth 20000 in
theorem lk_X2_loseWaiting_23 : Cond.fieldLink RX2 23 "LineDoubler$State" "queue" "LLineDoubler$Table;" ∈ wsX2_loseWaiting := List.mem_of_getElem? (i := 3) (by decide +kernel)
set_option maxRecDepth 20000 in
theorem in_X2_loseWaiting_X2 : ∀ x ∈ wsX20, x ∈ wsX2_loseWaiting := mem_r _ [23, 24, 25, 26, 27, 28] (by decide +kernel)
set_option maxRecDepth 20000 in
theorem cw_X2_loseWaiting_X3_read_93 {s : State} {args : Array Value} (hts : ∀ w ∈ wsX2_loseWaiting, w.before args s = true) : CallW rm_X2_loseWaiting s args RX2 RX3 93 yX3_read cX3_read 4 (some .int) wsX3_read rm_X3_read 0 0 2 :=
  cwV 2 hts gX2_loseWaiting_X3_read rfl rfl rfl (by decide +kernel) ⟨Nat.le_of_ble_eq_true rfl, Nat.le_of_ble_eq_true rfl⟩
set_option maxRecDepth 20000 in
theorem cw_X2_loseWaiting_X3_write_90 {s : State} {args : Array Value} (hts : ∀ w ∈ wsX2_loseWaiting, w.before args s = true) : CallW rm_X2_loseWaiting s args RX2 RX3 90 yX3_write cX3_write 5 none wsX3_write rm_X3_write 0 0 3 :=
  cwV 3 hts gX2_loseWaiting_X3_write rfl rfl rfl (by decide +kernel) ⟨Nat.le_of_ble_eq_true rfl, Nat.le_of_ble_eq_true rfl⟩
set_option maxRecDepth 20000 in
theorem cw_X2_loseWaiting_X3_removeRow_96 {s : State} {args : Array Value} (hts : ∀ w ∈ wsX2_loseWaiting, w.before args s = true) : CallW rm_X2_loseWaiting s args RX2 RX3 96 yX3_removeRow cX3_removeRow 4 none wsX3_removeRow rm_X3_removeRow 0 0 1 :=
  cwV 1 hts gX2_loseWaiting_X3_removeRow rfl rfl rfl (by decide +kernel) ⟨Nat.le_of_ble_eq_true rfl, Nat.le_of_ble_eq_true rfl⟩
set_option maxHeartbeats 4000000 in
set_option maxRecDepth 100000 in
theorem c_X2_loseWaiting (l : Launch) (G : va_G) (cI cC cZ : ClassId) (X : List (ClassId × FieldType)) (a0 a1 a2 a3 a4 a5 a6 a7 a8 : Nat) (nu : Nat → Int32) (va : Nat → Int32) (qu : Nat → Int32) (sc : Nat → Int32) (lo : Nat → Int32) (wt : Int32) (x1 : Int32) (x2 : Int32) (nu' : Nat → Int32) (qu' : Nat → Int32) (lo' : Nat → Int32) (hf : fX2_loseWaiting nu qu lo x1 x2 = some (nu', qu', lo')) : CT l yX2_loseWaiting wsX2_loseWaiting rm_X2_loseWaiting G (TY cI cC cZ X) [.ref a0, .int x1, .int x2] (wSt cI a0 a1 a2 a3 a4 a5 a6 a7 a8 nu va qu sc lo wt) none (wSt cI a0 a1 a2 a3 a4 a5 a6 a7 a8 nu' va qu' sc lo' wt) := by
  refine CT.of (cc := cX2_loseWaiting) (maxL := 4) (ret := none) RX2 rfl (by decide) rfl (Nat.le_of_ble_eq_true rfl) ?_
  intro p e s m args below meth c A ls C hr hlocks hnm h hl
  have hx := C.hx
  have hb := C.hb
  have hl : lv_has ls 4 [(0, .ref a0), (1, .int x1), (2, .int x2)] := hl
  unfold fX2_loseWaiting at hf
  refine lv_aload_n hx hb dX2_loseWaiting_0 rfl (lv_at hl 0 rfl) ?_
  refine r_get C h 0 0 (ci := 2) (N := 6) (Cn := RX2) (T := TX2) rfl rfl (by decide) in_X2_loseWaiting_X2 lk_X2_loseWaiting_9 rfl dX2_loseWaiting_1 ?_
  refine lv_iconst (v := 4) hx hb dX2_loseWaiting_4 (by decide) ?_
  refine r_ald C h 1 rfl rfl k_4_24 dX2_loseWaiting_5 ?_
  refine lv_bipush (v := 8) hx hb dX2_loseWaiting_6 (by decide) ?_
  refine lv_irem hx hb dX2_loseWaiting_8 (by decide) ?_
  refine lv_topi (fun x3_1 ex3_1 => ?_)
  replace hf := nm_use hf ex3_1
  refine lv_istore_n (lv' := [(3, .int x3_1), (0, .ref a0), (1, .int x1), (2, .int x2)]) hx hb dX2_loseWaiting_9 rfl hl (by decide) rfl (fun ls hl => ?_)
  refine lv_aload_n hx hb dX2_loseWaiting_10 rfl (lv_at hl 1 rfl) ?_
  refine r_get C h 0 4 (ci := 2) (N := 6) (Cn := RX2) (T := TX2) rfl rfl (by decide) in_X2_loseWaiting_X2 lk_X2_loseWaiting_30 rfl dX2_loseWaiting_11 ?_
  refine lv_iload_n hx hb dX2_loseWaiting_14 rfl (lv_at hl 0 rfl) ?_
  refine lv_iconst (v := 0) hx hb dX2_loseWaiting_15 (by decide) ?_
  refine lv_aload_n hx hb dX2_loseWaiting_16 rfl (lv_at hl 1 rfl) ?_
  refine r_get C h 0 2 (ci := 2) (N := 6) (Cn := RX2) (T := TX2) rfl rfl (by decide) in_X2_loseWaiting_X2 lk_X2_loseWaiting_23 rfl dX2_loseWaiting_17 ?_
  refine lv_iload_n hx hb dX2_loseWaiting_20 rfl (lv_at hl 2 rfl) ?_
  refine lv_iconst (v := 0) hx hb dX2_loseWaiting_21 (by decide) ?_
  obtain ⟨r_2, hq_3, hf⟩ := ob1_use hf
  refine r_callV C h (cw_X2_loseWaiting_X3_read_93 C.hts) (rest := [.int 0, .int x3_1, .ref a7]) (ci := 3) (N := 2) (Cn := RX3) (T := TX3) (c_X3_read l G cI cC cZ X a3 a4 4 68 qu x1 (0 : Int32) r_2 hq_3) [3, 4] rfl rfl rfl rfl 3 rfl rfl hl.1 rfl (Nat.le_of_ble_eq_true rfl) ⟨Nat.le_of_ble_eq_true rfl, Nat.le_of_ble_eq_true rfl⟩ (wSt cI a0 a1 a2 a3 a4 a5 a6 a7 a8 nu va qu sc lo wt) rfl rfl dX2_loseWaiting_22 (fun H locs h => ?_)
  obtain ⟨lo_4, hq_5, hf⟩ := ob1_use hf
  refine r_callV C h (cw_X2_loseWaiting_X3_write_90 C.hts) (rest := []) (ci := 3) (N := 2) (Cn := RX3) (T := TX3) (c_X3_write l G cI cC cZ X a7 a8 4 32 lo x3_1 (0 : Int32) r_2 lo_4 hq_5) [7, 8] rfl rfl rfl rfl 7 rfl rfl hl.1 rfl (Nat.le_of_ble_eq_true rfl) ⟨Nat.le_of_ble_eq_true rfl, Nat.le_of_ble_eq_true rfl⟩ (wSt cI a0 a1 a2 a3 a4 a5 a6 a7 a8 nu va qu sc lo_4 wt) rfl rfl dX2_loseWaiting_25 (fun H locs h => ?_)
  refine lv_aload_n hx hb dX2_loseWaiting_28 rfl (lv_at hl 1 rfl) ?_
  refine r_get C h 0 4 (ci := 2) (N := 6) (Cn := RX2) (T := TX2) rfl rfl (by decide) in_X2_loseWaiting_X2 lk_X2_loseWaiting_30 rfl dX2_loseWaiting_29 ?_
  refine lv_iload_n hx hb dX2_loseWaiting_32 rfl (lv_at hl 0 rfl) ?_
  refine lv_iconst (v := 1) hx hb dX2_loseWaiting_33 (by decide) ?_
  refine lv_aload_n hx hb dX2_loseWaiting_34 rfl (lv_at hl 1 rfl) ?_
  refine r_get C h 0 2 (ci := 2) (N := 6) (Cn := RX2) (T := TX2) rfl rfl (by decide) in_X2_loseWaiting_X2 lk_X2_loseWaiting_23 rfl dX2_loseWaiting_35 ?_
  refine lv_iload_n hx hb dX2_loseWaiting_38 rfl (lv_at hl 2 rfl) ?_
  refine lv_iconst (v := 1) hx hb dX2_loseWaiting_39 (by decide) ?_
  obtain ⟨r_6, hq_7, hf⟩ := ob1_use hf
  refine r_callV C h (cw_X2_loseWaiting_X3_read_93 C.hts) (rest := [.int 1, .int x3_1, .ref a7]) (ci := 3) (N := 2) (Cn := RX3) (T := TX3) (c_X3_read l G cI cC cZ X a3 a4 4 68 qu x1 (1 : Int32) r_6 hq_7) [3, 4] rfl rfl rfl rfl 3 rfl rfl hl.1 rfl (Nat.le_of_ble_eq_true rfl) ⟨Nat.le_of_ble_eq_true rfl, Nat.le_of_ble_eq_true rfl⟩ (wSt cI a0 a1 a2 a3 a4 a5 a6 a7 a8 nu va qu sc lo_4 wt) rfl rfl dX2_loseWaiting_40 (fun H locs h => ?_)
  obtain ⟨lo_8, hq_9, hf⟩ := ob1_use hf
  refine r_callV C h (cw_X2_loseWaiting_X3_write_90 C.hts) (rest := []) (ci := 3) (N := 2) (Cn := RX3) (T := TX3) (c_X3_write l G cI cC cZ X a7 a8 4 32 lo_4 x3_1 (1 : Int32) r_6 lo_8 hq_9) [7, 8] rfl rfl rfl rfl 7 rfl rfl hl.1 rfl (Nat.le_of_ble_eq_true rfl) ⟨Nat.le_of_ble_eq_true rfl, Nat.le_of_ble_eq_true rfl⟩ (wSt cI a0 a1 a2 a3 a4 a5 a6 a7 a8 nu va qu sc lo_8 wt) rfl rfl dX2_loseWaiting_43 (fun H locs h => ?_)
  refine lv_aload_n hx hb dX2_loseWaiting_46 rfl (lv_at hl 1 rfl) ?_
  refine r_get C h 0 4 (ci := 2) (N := 6) (Cn := RX2) (T := TX2) rfl rfl (by decide) in_X2_loseWaiting_X2 lk_X2_loseWaiting_30 rfl dX2_loseWaiting_47 ?_
  refine lv_iload_n hx hb dX2_loseWaiting_50 rfl (lv_at hl 0 rfl) ?_
  refine lv_iconst (v := 2) hx hb dX2_loseWaiting_51 (by decide) ?_
  refine lv_iload_n hx hb dX2_loseWaiting_52 rfl (lv_at hl 3 rfl) ?_
  obtain ⟨lo_10, hq_11, hf⟩ := ob1_use hf
  refine r_callV C h (cw_X2_loseWaiting_X3_write_90 C.hts) (rest := []) (ci := 3) (N := 2) (Cn := RX3) (T := TX3) (c_X3_write l G cI cC cZ X a7 a8 4 32 lo_8 x3_1 (2 : Int32) x2 lo_10 hq_11) [7, 8] rfl rfl rfl rfl 7 rfl rfl hl.1 rfl (Nat.le_of_ble_eq_true rfl) ⟨Nat.le_of_ble_eq_true rfl, Nat.le_of_ble_eq_true rfl⟩ (wSt cI a0 a1 a2 a3 a4 a5 a6 a7 a8 nu va qu sc lo_10 wt) rfl rfl dX2_loseWaiting_53 (fun H locs h => ?_)
  refine lv_aload_n hx hb dX2_loseWaiting_56 rfl (lv_at hl 1 rfl) ?_
  refine r_get C h 0 4 (ci := 2) (N := 6) (Cn := RX2) (T := TX2) rfl rfl (by decide) in_X2_loseWaiting_X2 lk_X2_loseWaiting_30 rfl dX2_loseWaiting_57 ?_
  refine lv_iload_n hx hb dX2_loseWaiting_60 rfl (lv_at hl 0 rfl) ?_
  refine lv_iconst (v := 3) hx hb dX2_loseWaiting_61 (by decide) ?_
  refine lv_aload_n hx hb dX2_loseWaiting_62 rfl (lv_at hl 1 rfl) ?_
  refine r_get C h 0 0 (ci := 2) (N := 6) (Cn := RX2) (T := TX2) rfl rfl (by decide) in_X2_loseWaiting_X2 lk_X2_loseWaiting_9 rfl dX2_loseWaiting_63 ?_
  refine lv_iconst (v := 0) hx hb dX2_loseWaiting_66 (by decide) ?_
  refine r_ald C h 1 rfl rfl k_0_24 dX2_loseWaiting_67 ?_
  obtain ⟨lo_12, hq_13, hf⟩ := ob1_use hf
  refine r_callV C h (cw_X2_loseWaiting_X3_write_90 C.hts) (rest := []) (ci := 3) (N := 2) (Cn := RX3) (T := TX3) (c_X3_write l G cI cC cZ X a7 a8 4 32 lo_10 x3_1 (3 : Int32) (nu 0) lo_12 hq_13) [7, 8] rfl rfl rfl rfl 7 rfl rfl hl.1 rfl (Nat.le_of_ble_eq_true rfl) ⟨Nat.le_of_ble_eq_true rfl, Nat.le_of_ble_eq_true rfl⟩ (wSt cI a0 a1 a2 a3 a4 a5 a6 a7 a8 nu va qu sc lo_12 wt) rfl rfl dX2_loseWaiting_68 (fun H locs h => ?_)
  refine lv_aload_n hx hb dX2_loseWaiting_71 rfl (lv_at hl 1 rfl) ?_
  refine r_get C h 0 0 (ci := 2) (N := 6) (Cn := RX2) (T := TX2) rfl rfl (by decide) in_X2_loseWaiting_X2 lk_X2_loseWaiting_9 rfl dX2_loseWaiting_72 ?_
  refine lv_iconst (v := 4) hx hb dX2_loseWaiting_75 (by decide) ?_
  refine lv_dup2_11 hx hb dX2_loseWaiting_76 rfl rfl ?_
  refine r_ald C h 1 rfl rfl k_4_24 dX2_loseWaiting_77 ?_
  refine lv_iconst (v := 1) hx hb dX2_loseWaiting_78 (by decide) ?_
  refine lv_iadd hx hb dX2_loseWaiting_79 ?_
  refine r_ast C h 1 rfl rfl k_4_24 (fun z__ => (wSt cI a0 a1 a2 a3 a4 a5 a6 a7 a8 z__ va qu sc lo_12 wt)) (fun _ => rfl) dX2_loseWaiting_80 (fun nu_14 enu_14 H locs h => ?_)
  replace hf := nm_use hf enu_14
  refine lv_aload_n hx hb dX2_loseWaiting_81 rfl (lv_at hl 1 rfl) ?_
  refine r_get C h 0 2 (ci := 2) (N := 6) (Cn := RX2) (T := TX2) rfl rfl (by decide) in_X2_loseWaiting_X2 lk_X2_loseWaiting_23 rfl dX2_loseWaiting_82 ?_
  refine lv_iload_n hx hb dX2_loseWaiting_85 rfl (lv_at hl 2 rfl) ?_
  obtain ⟨qu_15, hq_16, hf⟩ := ob1_use hf
  refine r_callV C h (cw_X2_loseWaiting_X3_removeRow_96 C.hts) (rest := []) (ci := 3) (N := 2) (Cn := RX3) (T := TX3) (c_X3_removeRow l G cI cC cZ X a3 a4 4 68 qu x1 qu_15 hq_16) [3, 4] rfl rfl rfl rfl 3 rfl rfl hl.1 rfl (Nat.le_of_ble_eq_true rfl) ⟨Nat.le_of_ble_eq_true rfl, Nat.le_of_ble_eq_true rfl⟩ (wSt cI a0 a1 a2 a3 a4 a5 a6 a7 a8 nu_14 va qu_15 sc lo_12 wt) rfl rfl dX2_loseWaiting_86 (fun H locs h => ?_)
  refine lv_aload_n hx hb dX2_loseWaiting_89 rfl (lv_at hl 1 rfl) ?_
  refine r_get C h 0 0 (ci := 2) (N := 6) (Cn := RX2) (T := TX2) rfl rfl (by decide) in_X2_loseWaiting_X2 lk_X2_loseWaiting_9 rfl dX2_loseWaiting_90 ?_
  refine lv_iconst (v := 2) hx hb dX2_loseWaiting_93 (by decide) ?_
  refine lv_dup2_11 hx hb dX2_loseWaiting_94 rfl rfl ?_
  refine r_ald C h 1 rfl rfl k_2_24 dX2_loseWaiting_95 ?_
  refine lv_iconst (v := 1) hx hb dX2_loseWaiting_96 (by decide) ?_
  refine lv_isub hx hb dX2_loseWaiting_97 ?_
  refine r_ast C h 1 rfl rfl k_2_24 (fun z__ => (wSt cI a0 a1 a2 a3 a4 a5 a6 a7 a8 z__ va qu_15 sc lo_12 wt)) (fun _ => rfl) dX2_loseWaiting_98 (fun nu_17 enu_17 H locs h => ?_)
  replace hf := nm_use hf enu_17
  cases hf
  exact r_vret C h hr hlocks dX2_loseWaiting_99
def rm_X2_skipAll : Room := { frames := 3, cells := 0, slots := 0, locals := 64 }
set_option maxRecDepth 20000 in
theorem lk_X2_skipAll_9 : Cond.fieldLink RX2 9 "LineDoubler$State" "numbers" "[I" ∈ wsX2_skipAll := List.mem_of_getElem? (i := 1) (by decide +kernel)
set_option maxRecDepth 20000 in
theorem in_X2_skipAll_X2 : ∀ x ∈ wsX20, x ∈ wsX2_skipAll := mem_r _ [28, 29, 30, 31, 32, 33] (by decide +kernel)
set_option maxRecDepth 20000 in
theorem cw_X2_skipAll_X2_loseWaiting_79 {s : State} {args : Array Value} (hts : ∀ w ∈ wsX2_skipAll, w.before args s = true) : CallW rm_X2_skipAll s args RX2 RX2 79 yX2_loseWaiting cX2_loseWaiting 4 none wsX2_loseWaiting rm_X2_loseWaiting 0 0 2 :=
  cwV 2 hts gX2_skipAll_X2_loseWaiting rfl rfl rfl (by decide +kernel) ⟨Nat.le_of_ble_eq_true rfl, Nat.le_of_ble_eq_true rfl⟩
set_option maxHeartbeats 4000000 in
set_option maxRecDepth 100000 in
theorem c_X2_skipAll (l : Launch) (G : va_G) (cI cC cZ : ClassId) (X : List (ClassId × FieldType)) (a0 a1 a2 a3 a4 a5 a6 a7 a8 : Nat) (nu : Nat → Int32) (va : Nat → Int32) (qu : Nat → Int32) (sc : Nat → Int32) (lo : Nat → Int32) (wt : Int32) (rv : Int32) (nu' : Nat → Int32) (qu' : Nat → Int32) (lo' : Nat → Int32) (hf : fX2_skipAll nu qu lo = some (rv, nu', qu', lo')) : CT l yX2_skipAll wsX2_skipAll rm_X2_skipAll G (TY cI cC cZ X) [.ref a0] (wSt cI a0 a1 a2 a3 a4 a5 a6 a7 a8 nu va qu sc lo wt) (some (.int rv)) (wSt cI a0 a1 a2 a3 a4 a5 a6 a7 a8 nu' va qu' sc lo' wt) := by
  refine CT.of (cc := cX2_skipAll) (maxL := 3) (ret := (some .int)) RX2 rfl (by decide) rfl (Nat.le_of_ble_eq_true rfl) ?_
  intro p e s m args below meth c A ls C hr hlocks hnm h hl
  have hx := C.hx
  have hb := C.hb
  have hl : lv_has ls 3 [(0, .ref a0)] := hl
  have cut_9 : ∀ (n : Nat) (nu : Nat → Int32) (qu : Nat → Int32) (lo : Nat → Int32) (x1 : Int32) (x2 : Int32) (H : Heap) (locs : List Loc) (ls : Array Slot), Hx s G A (wSt cI a0 a1 a2 a3 a4 a5 a6 a7 a8 nu va qu sc lo wt) H locs → lv_has ls 3 [(0, .ref a0), (1, .int x1), (2, .int x2)] → fX2_skipAll_9 n nu qu lo x1 x2 = some (rv, nu', qu', lo') → W p l e rm_X2_skipAll s m args below meth c H locs 0 0 (MQ below (Qx G (some (.int rv)) (wSt cI a0 a1 a2 a3 a4 a5 a6 a7 a8 nu' va qu' sc lo' wt) A) args s 0 0 A) (F0 m 9 ls []) := by
    intro n
    induction n with
    | zero =>
      intro nu qu lo x1 x2 H locs ls h hl hf
      exact (nn_some _ hf).elim
    | succ n ih =>
      intro nu qu lo x1 x2 H locs ls h hl hf
      have hf : fX2_skipAll_9_b (fX2_skipAll_9 n) nu qu lo x1 x2 = some (rv, nu', qu', lo') := hf
      unfold fX2_skipAll_9_b at hf
      refine lv_iload_n hx hb dX2_skipAll_9 rfl (lv_at hl 2 rfl) ?_
      refine lv_iload_n hx hb dX2_skipAll_10 rfl (lv_at hl 1 rfl) ?_
      refine lv_icmp_ge (tgt := 26) hx hb dX2_skipAll_11 (by decide) (fun hc => ?_) (fun hc => ?_)
      · replace hf := it_t hf hc
        refine lv_iload_n hx hb dX2_skipAll_26 rfl (lv_at hl 1 rfl) ?_
        cases hf
        exact r_iret C h hr hlocks dX2_skipAll_27
      · replace hf := it_f hf hc
        refine lv_aload_n hx hb dX2_skipAll_14 rfl (lv_at hl 0 rfl) ?_
        refine lv_iconst (v := 0) hx hb dX2_skipAll_15 (by decide) ?_
        refine lv_iconst (v := 2) hx hb dX2_skipAll_16 (by decide) ?_
        obtain ⟨nu_1, qu_2, lo_3, hq_4, hf⟩ := ob3_use hf
        refine r_callV C h (cw_X2_skipAll_X2_loseWaiting_79 C.hts) (rest := []) (ci := 2) (N := 6) (Cn := RX2) (T := TX2) (c_X2_loseWaiting l G cI cC cZ X a0 a1 a2 a3 a4 a5 a6 a7 a8 nu va qu sc lo wt (0 : Int32) (2 : Int32) nu_1 qu_2 lo_3 hq_4) [0, 1, 2, 3, 4, 5, 6, 7, 8] rfl rfl rfl rfl 0 rfl rfl hl.1 rfl (Nat.le_of_ble_eq_true rfl) ⟨Nat.le_of_ble_eq_true rfl, Nat.le_of_ble_eq_true rfl⟩ (wSt cI a0 a1 a2 a3 a4 a5 a6 a7 a8 nu_1 va qu_2 sc lo_3 wt) rfl rfl dX2_skipAll_17 (fun H locs h => ?_)
        obtain ⟨x2_5, ex2_5⟩ : ∃ y : Int32, y = x2 + 1 := ⟨_, rfl⟩
        replace hf := nm_use hf ex2_5
        refine lv_iinc (v := x2_5) (lv' := [(2, .int x2_5), (0, .ref a0), (1, .int x1)]) hx hb dX2_skipAll_20 hl (k := 2) rfl (by rw [ex2_5]; rfl) (by decide) rfl (fun ls hl => ?_)
        refine lv_goto (tgt := 9) hx hb dX2_skipAll_23 (by decide) ?_
        exact ih nu_1 qu_2 lo_3 x1 x2_5 _ _ _ h (lv_sub hl [1, 2, 0] rfl) hf
  unfold fX2_skipAll at hf
  refine lv_aload_n hx hb dX2_skipAll_0 rfl (lv_at hl 0 rfl) ?_
  refine r_get C h 0 0 (ci := 2) (N := 6) (Cn := RX2) (T := TX2) rfl rfl (by decide) in_X2_skipAll_X2 lk_X2_skipAll_9 rfl dX2_skipAll_1 ?_
  refine lv_iconst (v := 2) hx hb dX2_skipAll_4 (by decide) ?_
  refine r_ald C h 1 rfl rfl k_2_24 dX2_skipAll_5 ?_
  refine lv_topi (fun x1_1 ex1_1 => ?_)
  replace hf := nm_use hf ex1_1
  refine lv_istore_n (lv' := [(1, .int x1_1), (0, .ref a0)]) hx hb dX2_skipAll_6 rfl hl (by decide) rfl (fun ls hl => ?_)
  refine lv_iconst (v := 0) hx hb dX2_skipAll_7 (by decide) ?_
  refine lv_istore_n (lv' := [(2, .int 0), (1, .int x1_1), (0, .ref a0)]) hx hb dX2_skipAll_8 rfl hl (by decide) rfl (fun ls hl => ?_)
  exact cut_9 KF nu qu lo x1_1 0 _ _ _ h (lv_sub hl [2, 1, 0] rfl) hf
def rm_X2_lineComes : Room := { frames := 3, cells := 0, slots := 0, locals := 67 }
set_option maxRecDepth 20000 in
theorem lk_X2_lineComes_9 : Cond.fieldLink RX2 9 "LineDoubler$State" "numbers" "[I" ∈ wsX2_lineComes := List.mem_of_getElem? (i := 1) (by decide +kernel)
set_option maxRecDepth 20000 in
theorem in_X2_lineComes_X2 : ∀ x ∈ wsX20, x ∈ wsX2_lineComes := mem_r _ [44, 45, 46, 47, 48, 49] (by decide +kernel)
set_option maxRecDepth 20000 in
theorem cw_X2_lineComes_X2_nextLineWaits_83 {s : State} {args : Array Value} (hts : ∀ w ∈ wsX2_lineComes, w.before args s = true) : CallW rm_X2_lineComes s args RX2 RX2 83 yX2_nextLineWaits cX2_nextLineWaits 5 none wsX2_nextLineWaits rm_X2_nextLineWaits 0 0 0 :=
  cwV 0 hts gX2_lineComes_X2_nextLineWaits rfl rfl rfl (by decide +kernel) ⟨Nat.le_of_ble_eq_true rfl, Nat.le_of_ble_eq_true rfl⟩
set_option maxRecDepth 20000 in
theorem cw_X2_lineComes_X2_setting_54 {s : State} {args : Array Value} (hts : ∀ w ∈ wsX2_lineComes, w.before args s = true) : CallW rm_X2_lineComes s args RX2 RX2 54 yX2_setting cX2_setting 2 (some .int) wsX2_setting rm_X2_setting 0 0 1 :=
  cwV 1 hts gX2_lineComes_X2_setting rfl rfl rfl (by decide +kernel) ⟨Nat.le_of_ble_eq_true rfl, Nat.le_of_ble_eq_true rfl⟩
set_option maxRecDepth 20000 in
theorem cw_X2_lineComes_X2_loseWaiting_79 {s : State} {args : Array Value} (hts : ∀ w ∈ wsX2_lineComes, w.before args s = true) : CallW rm_X2_lineComes s args RX2 RX2 79 yX2_loseWaiting cX2_loseWaiting 4 none wsX2_loseWaiting rm_X2_loseWaiting 0 0 2 :=
  cwV 2 hts gX2_lineComes_X2_loseWaiting rfl rfl rfl (by decide +kernel) ⟨Nat.le_of_ble_eq_true rfl, Nat.le_of_ble_eq_true rfl⟩
set_option maxRecDepth 20000 in
theorem cw_X2_lineComes_X2_firstNotOut_86 {s : State} {args : Array Value} (hts : ∀ w ∈ wsX2_lineComes, w.before args s = true) : CallW rm_X2_lineComes s args RX2 RX2 86 yX2_firstNotOut cX2_firstNotOut 2 (some .int) wsX2_firstNotOut rm_X2_firstNotOut 0 0 0 :=
  cwV 0 hts gX2_lineComes_X2_firstNotOut rfl rfl rfl (by decide +kernel) ⟨Nat.le_of_ble_eq_true rfl, Nat.le_of_ble_eq_true rfl⟩
set_option maxHeartbeats 4000000 in
set_option maxRecDepth 100000 in
theorem c_X2_lineComes (l : Launch) (G : va_G) (cI cC cZ : ClassId) (X : List (ClassId × FieldType)) (a0 a1 a2 a3 a4 a5 a6 a7 a8 : Nat) (nu : Nat → Int32) (va : Nat → Int32) (qu : Nat → Int32) (sc : Nat → Int32) (lo : Nat → Int32) (wt : Int32) (nu' : Nat → Int32) (qu' : Nat → Int32) (lo' : Nat → Int32) (hf : fX2_lineComes nu va qu lo = some (nu', qu', lo')) : CT l yX2_lineComes wsX2_lineComes rm_X2_lineComes G (TY cI cC cZ X) [.ref a0] (wSt cI a0 a1 a2 a3 a4 a5 a6 a7 a8 nu va qu sc lo wt) none (wSt cI a0 a1 a2 a3 a4 a5 a6 a7 a8 nu' va qu' sc lo' wt) := by
  refine CT.of (cc := cX2_lineComes) (maxL := 3) (ret := none) RX2 rfl (by decide) rfl (Nat.le_of_ble_eq_true rfl) ?_
  intro p e s m args below meth c A ls C hr hlocks hnm h hl
  have hx := C.hx
  have hb := C.hb
  have hl : lv_has ls 3 [(0, .ref a0)] := hl
  have cut_115 : ∀ (nu : Nat → Int32) (qu : Nat → Int32) (lo : Nat → Int32) (H : Heap) (locs : List Loc) (ls : Array Slot), Hx s G A (wSt cI a0 a1 a2 a3 a4 a5 a6 a7 a8 nu va qu sc lo wt) H locs → lv_has ls 3 [(0, .ref a0)] → fX2_lineComes_115 nu va qu lo = some (nu', qu', lo') → W p l e rm_X2_lineComes s m args below meth c H locs 0 0 (MQ below (Qx G none (wSt cI a0 a1 a2 a3 a4 a5 a6 a7 a8 nu' va qu' sc lo' wt) A) args s 0 0 A) (F0 m 115 ls []) := by
    intro nu qu lo H locs ls h hl hf
    unfold fX2_lineComes_115 at hf
    refine lv_aload_n hx hb dX2_lineComes_115 rfl (lv_at hl 0 rfl) ?_
    refine r_get C h 0 0 (ci := 2) (N := 6) (Cn := RX2) (T := TX2) rfl rfl (by decide) in_X2_lineComes_X2 lk_X2_lineComes_9 rfl dX2_lineComes_116 ?_
    refine lv_bipush (v := 10) hx hb dX2_lineComes_119 (by decide) ?_
    refine lv_dup2_11 hx hb dX2_lineComes_121 rfl rfl ?_
    refine r_ald C h 1 rfl rfl k_10_24 dX2_lineComes_122 ?_
    refine lv_aload_n hx hb dX2_lineComes_123 rfl (lv_at hl 0 rfl) ?_
    refine lv_iconst (v := 0) hx hb dX2_lineComes_124 (by decide) ?_
    obtain ⟨r_1, hq_2, hf⟩ := ob1_use hf
    refine r_callV C h (cw_X2_lineComes_X2_setting_54 C.hts) (rest := [.int (nu 10), .int 10, .ref a1]) (ci := 2) (N := 6) (Cn := RX2) (T := TX2) (c_X2_setting l G cI cC cZ X a0 a1 a2 a3 a4 a5 a6 a7 a8 nu va qu sc lo wt (0 : Int32) r_1 hq_2) [0, 1, 2, 3, 4, 5, 6, 7, 8] rfl rfl rfl rfl 0 rfl rfl hl.1 rfl (Nat.le_of_ble_eq_true rfl) ⟨Nat.le_of_ble_eq_true rfl, Nat.le_of_ble_eq_true rfl⟩ (wSt cI a0 a1 a2 a3 a4 a5 a6 a7 a8 nu va qu sc lo wt) rfl rfl dX2_lineComes_125 (fun H locs h => ?_)
    refine lv_iadd hx hb dX2_lineComes_128 ?_
    refine r_ast C h 1 rfl rfl k_10_24 (fun z__ => (wSt cI a0 a1 a2 a3 a4 a5 a6 a7 a8 z__ va qu sc lo wt)) (fun _ => rfl) dX2_lineComes_129 (fun nu_3 enu_3 H locs h => ?_)
    replace hf := nm_use hf enu_3
    cases hf
    exact r_vret C h hr hlocks dX2_lineComes_130
  have cut_70 : ∀ (nu : Nat → Int32) (qu : Nat → Int32) (lo : Nat → Int32) (H : Heap) (locs : List Loc) (ls : Array Slot), Hx s G A (wSt cI a0 a1 a2 a3 a4 a5 a6 a7 a8 nu va qu sc lo wt) H locs → lv_has ls 3 [(0, .ref a0)] → fX2_lineComes_70 nu va qu lo = some (nu', qu', lo') → W p l e rm_X2_lineComes s m args below meth c H locs 0 0 (MQ below (Qx G none (wSt cI a0 a1 a2 a3 a4 a5 a6 a7 a8 nu' va qu' sc lo' wt) A) args s 0 0 A) (F0 m 70 ls []) := by
    intro nu qu lo H locs ls h hl hf
    unfold fX2_lineComes_70 at hf
    refine lv_aload_n hx hb dX2_lineComes_70 rfl (lv_at hl 0 rfl) ?_
    refine r_get C h 0 0 (ci := 2) (N := 6) (Cn := RX2) (T := TX2) rfl rfl (by decide) in_X2_lineComes_X2 lk_X2_lineComes_9 rfl dX2_lineComes_71 ?_
    refine lv_bipush (v := 8) hx hb dX2_lineComes_74 (by decide) ?_
    refine lv_dup2_11 hx hb dX2_lineComes_76 rfl rfl ?_
    refine r_ald C h 1 rfl rfl k_8_24 dX2_lineComes_77 ?_
    refine lv_iconst (v := 1) hx hb dX2_lineComes_78 (by decide) ?_
    refine lv_iadd hx hb dX2_lineComes_79 ?_
    refine r_ast C h 1 rfl rfl k_8_24 (fun z__ => (wSt cI a0 a1 a2 a3 a4 a5 a6 a7 a8 z__ va qu sc lo wt)) (fun _ => rfl) dX2_lineComes_80 (fun nu_1 enu_1 H locs h => ?_)
    replace hf := nm_use hf enu_1
    refine lv_aload_n hx hb dX2_lineComes_81 rfl (lv_at hl 0 rfl) ?_
    refine r_get C h 0 0 (ci := 2) (N := 6) (Cn := RX2) (T := TX2) rfl rfl (by decide) in_X2_lineComes_X2 lk_X2_lineComes_9 rfl dX2_lineComes_82 ?_
    refine lv_bipush (v := 8) hx hb dX2_lineComes_85 (by decide) ?_
    refine r_ald C h 1 rfl rfl k_8_24 dX2_lineComes_87 ?_
    refine lv_aload_n hx hb dX2_lineComes_88 rfl (lv_at hl 0 rfl) ?_
    refine lv_iconst (v := 3) hx hb dX2_lineComes_89 (by decide) ?_
    obtain ⟨r_2, hq_3, hf⟩ := ob1_use hf
    refine r_callV C h (cw_X2_lineComes_X2_setting_54 C.hts) (rest := [.int (nu_1 8)]) (ci := 2) (N := 6) (Cn := RX2) (T := TX2) (c_X2_setting l G cI cC cZ X a0 a1 a2 a3 a4 a5 a6 a7 a8 nu_1 va qu sc lo wt (3 : Int32) r_2 hq_3) [0, 1, 2, 3, 4, 5, 6, 7, 8] rfl rfl rfl rfl 0 rfl rfl hl.1 rfl (Nat.le_of_ble_eq_true rfl) ⟨Nat.le_of_ble_eq_true rfl, Nat.le_of_ble_eq_true rfl⟩ (wSt cI a0 a1 a2 a3 a4 a5 a6 a7 a8 nu_1 va qu sc lo wt) rfl rfl dX2_lineComes_90 (fun H locs h => ?_)
    refine lv_icmp_lt (tgt := 115) hx hb dX2_lineComes_93 (by decide) (fun hc => ?_) (fun hc => ?_)
    · replace hf := it_t hf hc
      exact cut_115 nu_1 qu lo _ _ _ h (lv_sub hl [0] rfl) hf
    · replace hf := it_f hf hc
      refine lv_aload_n hx hb dX2_lineComes_96 rfl (lv_at hl 0 rfl) ?_
      refine r_get C h 0 0 (ci := 2) (N := 6) (Cn := RX2) (T := TX2) rfl rfl (by decide) in_X2_lineComes_X2 lk_X2_lineComes_9 rfl dX2_lineComes_97 ?_
      refine lv_bipush (v := 8) hx hb dX2_lineComes_100 (by decide) ?_
      refine lv_iconst (v := 0) hx hb dX2_lineComes_102 (by decide) ?_
      refine r_ast C h 1 rfl rfl k_8_24 (fun z__ => (wSt cI a0 a1 a2 a3 a4 a5 a6 a7 a8 z__ va qu sc lo wt)) (fun _ => rfl) dX2_lineComes_103 (fun nu_4 enu_4 H locs h => ?_)
      replace hf := nm_use hf enu_4
      refine lv_aload_n hx hb dX2_lineComes_104 rfl (lv_at hl 0 rfl) ?_
      refine r_get C h 0 0 (ci := 2) (N := 6) (Cn := RX2) (T := TX2) rfl rfl (by decide) in_X2_lineComes_X2 lk_X2_lineComes_9 rfl dX2_lineComes_105 ?_
      refine lv_bipush (v := 9) hx hb dX2_lineComes_108 (by decide) ?_
      refine lv_dup2_11 hx hb dX2_lineComes_110 rfl rfl ?_
      refine r_ald C h 1 rfl rfl k_9_24 dX2_lineComes_111 ?_
      refine lv_iconst (v := 1) hx hb dX2_lineComes_112 (by decide) ?_
      refine lv_iadd hx hb dX2_lineComes_113 ?_
      refine r_ast C h 1 rfl rfl k_9_24 (fun z__ => (wSt cI a0 a1 a2 a3 a4 a5 a6 a7 a8 z__ va qu sc lo wt)) (fun _ => rfl) dX2_lineComes_114 (fun nu_5 enu_5 H locs h => ?_)
      replace hf := nm_use hf enu_5
      exact cut_115 nu_5 qu lo _ _ _ h (lv_sub hl [0] rfl) hf
  unfold fX2_lineComes at hf
  refine lv_aload_n hx hb dX2_lineComes_0 rfl (lv_at hl 0 rfl) ?_
  refine r_get C h 0 0 (ci := 2) (N := 6) (Cn := RX2) (T := TX2) rfl rfl (by decide) in_X2_lineComes_X2 lk_X2_lineComes_9 rfl dX2_lineComes_1 ?_
  refine lv_iconst (v := 1) hx hb dX2_lineComes_4 (by decide) ?_
  refine lv_dup2_11 hx hb dX2_lineComes_5 rfl rfl ?_
  refine r_ald C h 1 rfl rfl k_1_24 dX2_lineComes_6 ?_
  refine lv_iconst (v := 1) hx hb dX2_lineComes_7 (by decide) ?_
  refine lv_iadd hx hb dX2_lineComes_8 ?_
  refine r_ast C h 1 rfl rfl k_1_24 (fun z__ => (wSt cI a0 a1 a2 a3 a4 a5 a6 a7 a8 z__ va qu sc lo wt)) (fun _ => rfl) dX2_lineComes_9 (fun nu_1 enu_1 H locs h => ?_)
  replace hf := nm_use hf enu_1
  refine lv_aload_n hx hb dX2_lineComes_10 rfl (lv_at hl 0 rfl) ?_
  obtain ⟨nu_2, qu_3, hq_4, hf⟩ := ob2_use hf
  refine r_callV C h (cw_X2_lineComes_X2_nextLineWaits_83 C.hts) (rest := []) (ci := 2) (N := 6) (Cn := RX2) (T := TX2) (c_X2_nextLineWaits l G cI cC cZ X a0 a1 a2 a3 a4 a5 a6 a7 a8 nu_1 va qu sc lo wt nu_2 qu_3 hq_4) [0, 1, 2, 3, 4, 5, 6, 7, 8] rfl rfl rfl rfl 0 rfl rfl hl.1 rfl (Nat.le_of_ble_eq_true rfl) ⟨Nat.le_of_ble_eq_true rfl, Nat.le_of_ble_eq_true rfl⟩ (wSt cI a0 a1 a2 a3 a4 a5 a6 a7 a8 nu_2 va qu_3 sc lo wt) rfl rfl dX2_lineComes_11 (fun H locs h => ?_)
  refine lv_aload_n hx hb dX2_lineComes_14 rfl (lv_at hl 0 rfl) ?_
  refine r_get C h 0 0 (ci := 2) (N := 6) (Cn := RX2) (T := TX2) rfl rfl (by decide) in_X2_lineComes_X2 lk_X2_lineComes_9 rfl dX2_lineComes_15 ?_
  refine lv_iconst (v := 2) hx hb dX2_lineComes_18 (by decide) ?_
  refine r_ald C h 1 rfl rfl k_2_24 dX2_lineComes_19 ?_
  refine lv_aload_n hx hb dX2_lineComes_20 rfl (lv_at hl 0 rfl) ?_
  refine lv_iconst (v := 2) hx hb dX2_lineComes_21 (by decide) ?_
  obtain ⟨r_5, hq_6, hf⟩ := ob1_use hf
  refine r_callV C h (cw_X2_lineComes_X2_setting_54 C.hts) (rest := [.int (nu_2 2)]) (ci := 2) (N := 6) (Cn := RX2) (T := TX2) (c_X2_setting l G cI cC cZ X a0 a1 a2 a3 a4 a5 a6 a7 a8 nu_2 va qu_3 sc lo wt (2 : Int32) r_5 hq_6) [0, 1, 2, 3, 4, 5, 6, 7, 8] rfl rfl rfl rfl 0 rfl rfl hl.1 rfl (Nat.le_of_ble_eq_true rfl) ⟨Nat.le_of_ble_eq_true rfl, Nat.le_of_ble_eq_true rfl⟩ (wSt cI a0 a1 a2 a3 a4 a5 a6 a7 a8 nu_2 va qu_3 sc lo wt) rfl rfl dX2_lineComes_22 (fun H locs h => ?_)
  refine lv_icmp_le (tgt := 70) hx hb dX2_lineComes_25 (by decide) (fun hc => ?_) (fun hc => ?_)
  · replace hf := it_t hf hc
    exact cut_70 nu_2 qu_3 lo _ _ _ h (lv_sub hl [0] rfl) hf
  · replace hf := it_f hf hc
    refine lv_aload_n hx hb dX2_lineComes_28 rfl (lv_at hl 0 rfl) ?_
    refine r_get C h 0 0 (ci := 2) (N := 6) (Cn := RX2) (T := TX2) rfl rfl (by decide) in_X2_lineComes_X2 lk_X2_lineComes_9 rfl dX2_lineComes_29 ?_
    refine lv_iconst (v := 2) hx hb dX2_lineComes_32 (by decide) ?_
    refine r_ald C h 1 rfl rfl k_2_24 dX2_lineComes_33 ?_
    refine lv_iconst (v := 1) hx hb dX2_lineComes_34 (by decide) ?_
    refine lv_isub hx hb dX2_lineComes_35 ?_
    refine lv_topi (fun x1_7 ex1_7 => ?_)
    replace hf := nm_use hf ex1_7
    refine lv_istore_n (lv' := [(1, .int x1_7), (0, .ref a0)]) hx hb dX2_lineComes_36 rfl hl (by decide) rfl (fun ls hl => ?_)
    refine lv_aload_n hx hb dX2_lineComes_37 rfl (lv_at hl 1 rfl) ?_
    refine lv_iconst (v := 4) hx hb dX2_lineComes_38 (by decide) ?_
    obtain ⟨r_8, hq_9, hf⟩ := ob1_use hf
    refine r_callV C h (cw_X2_lineComes_X2_setting_54 C.hts) (rest := []) (ci := 2) (N := 6) (Cn := RX2) (T := TX2) (c_X2_setting l G cI cC cZ X a0 a1 a2 a3 a4 a5 a6 a7 a8 nu_2 va qu_3 sc lo wt (4 : Int32) r_8 hq_9) [0, 1, 2, 3, 4, 5, 6, 7, 8] rfl rfl rfl rfl 0 rfl rfl hl.1 rfl (Nat.le_of_ble_eq_true rfl) ⟨Nat.le_of_ble_eq_true rfl, Nat.le_of_ble_eq_true rfl⟩ (wSt cI a0 a1 a2 a3 a4 a5 a6 a7 a8 nu_2 va qu_3 sc lo wt) rfl rfl dX2_lineComes_39 (fun H locs h => ?_)
    refine lv_iconst (v := 1) hx hb dX2_lineComes_42 (by decide) ?_
    refine lv_icmp_ne (tgt := 53) hx hb dX2_lineComes_43 (by decide) (fun hc => ?_) (fun hc => ?_)
    · replace hf := it_f hf hc
      refine lv_iload_n hx hb dX2_lineComes_53 rfl (lv_at hl 0 rfl) ?_
      refine lv_istore_n (lv' := [(2, .int x1_7), (1, .int x1_7), (0, .ref a0)]) hx hb dX2_lineComes_54 rfl hl (by decide) rfl (fun ls hl => ?_)
      refine lv_aload_n hx hb dX2_lineComes_55 rfl (lv_at hl 2 rfl) ?_
      refine lv_iload_n hx hb dX2_lineComes_56 rfl (lv_at hl 0 rfl) ?_
      refine lv_iload_n hx hb dX2_lineComes_57 rfl (lv_at hl 0 rfl) ?_
      refine lv_iload_n hx hb dX2_lineComes_58 rfl (lv_at hl 1 rfl) ?_
      refine lv_icmp_ne (tgt := 66) hx hb dX2_lineComes_59 (by decide) (fun hc => ?_) (fun hc => ?_)
      · replace hf := it_f hf hc
        refine lv_iconst (v := 1) hx hb dX2_lineComes_66 (by decide) ?_
        obtain ⟨nu_10, qu_11, lo_12, hq_13, hf⟩ := ob3_use hf
        refine r_callV C h (cw_X2_lineComes_X2_loseWaiting_79 C.hts) (rest := []) (ci := 2) (N := 6) (Cn := RX2) (T := TX2) (c_X2_loseWaiting l G cI cC cZ X a0 a1 a2 a3 a4 a5 a6 a7 a8 nu_2 va qu_3 sc lo wt x1_7 (1 : Int32) nu_10 qu_11 lo_12 hq_13) [0, 1, 2, 3, 4, 5, 6, 7, 8] rfl rfl rfl rfl 0 rfl rfl hl.1 rfl (Nat.le_of_ble_eq_true rfl) ⟨Nat.le_of_ble_eq_true rfl, Nat.le_of_ble_eq_true rfl⟩ (wSt cI a0 a1 a2 a3 a4 a5 a6 a7 a8 nu_10 va qu_11 sc lo_12 wt) rfl rfl dX2_lineComes_67 (fun H locs h => ?_)
        exact cut_70 nu_10 qu_11 lo_12 _ _ _ h (lv_sub hl [2] rfl) hf
      · replace hf := it_t hf hc
        refine lv_iconst (v := 0) hx hb dX2_lineComes_62 (by decide) ?_
        refine lv_goto (tgt := 67) hx hb dX2_lineComes_63 (by decide) ?_
        obtain ⟨nu_14, qu_15, lo_16, hq_17, hf⟩ := ob3_use hf
        refine r_callV C h (cw_X2_lineComes_X2_loseWaiting_79 C.hts) (rest := []) (ci := 2) (N := 6) (Cn := RX2) (T := TX2) (c_X2_loseWaiting l G cI cC cZ X a0 a1 a2 a3 a4 a5 a6 a7 a8 nu_2 va qu_3 sc lo wt x1_7 (0 : Int32) nu_14 qu_15 lo_16 hq_17) [0, 1, 2, 3, 4, 5, 6, 7, 8] rfl rfl rfl rfl 0 rfl rfl hl.1 rfl (Nat.le_of_ble_eq_true rfl) ⟨Nat.le_of_ble_eq_true rfl, Nat.le_of_ble_eq_true rfl⟩ (wSt cI a0 a1 a2 a3 a4 a5 a6 a7 a8 nu_14 va qu_15 sc lo_16 wt) rfl rfl dX2_lineComes_67 (fun H locs h => ?_)
        exact cut_70 nu_14 qu_15 lo_16 _ _ _ h (lv_sub hl [2] rfl) hf
    · replace hf := it_t hf hc
      refine lv_aload_n hx hb dX2_lineComes_46 rfl (lv_at hl 1 rfl) ?_
      obtain ⟨r_18, hq_19, hf⟩ := ob1_use hf
      refine r_callV C h (cw_X2_lineComes_X2_firstNotOut_86 C.hts) (rest := []) (ci := 2) (N := 6) (Cn := RX2) (T := TX2) (c_X2_firstNotOut l G cI cC cZ X a0 a1 a2 a3 a4 a5 a6 a7 a8 nu_2 va qu_3 sc lo wt r_18 hq_19) [0, 1, 2, 3, 4, 5, 6, 7, 8] rfl rfl rfl rfl 0 rfl rfl hl.1 rfl (Nat.le_of_ble_eq_true rfl) ⟨Nat.le_of_ble_eq_true rfl, Nat.le_of_ble_eq_true rfl⟩ (wSt cI a0 a1 a2 a3 a4 a5 a6 a7 a8 nu_2 va qu_3 sc lo wt) rfl rfl dX2_lineComes_47 (fun H locs h => ?_)
      refine lv_goto (tgt := 54) hx hb dX2_lineComes_50 (by decide) ?_
      refine lv_istore_n (lv' := [(2, .int r_18), (1, .int x1_7), (0, .ref a0)]) hx hb dX2_lineComes_54 rfl hl (by decide) rfl (fun ls hl => ?_)
      refine lv_aload_n hx hb dX2_lineComes_55 rfl (lv_at hl 2 rfl) ?_
      refine lv_iload_n hx hb dX2_lineComes_56 rfl (lv_at hl 0 rfl) ?_
      refine lv_iload_n hx hb dX2_lineComes_57 rfl (lv_at hl 0 rfl) ?_
      refine lv_iload_n hx hb dX2_lineComes_58 rfl (lv_at hl 1 rfl) ?_
      refine lv_icmp_ne (tgt := 66) hx hb dX2_lineComes_59 (by decide) (fun hc => ?_) (fun hc => ?_)
      · replace hf := it_f hf hc
        refine lv_iconst (v := 1) hx hb dX2_lineComes_66 (by decide) ?_
        obtain ⟨nu_20, qu_21, lo_22, hq_23, hf⟩ := ob3_use hf
        refine r_callV C h (cw_X2_lineComes_X2_loseWaiting_79 C.hts) (rest := []) (ci := 2) (N := 6) (Cn := RX2) (T := TX2) (c_X2_loseWaiting l G cI cC cZ X a0 a1 a2 a3 a4 a5 a6 a7 a8 nu_2 va qu_3 sc lo wt r_18 (1 : Int32) nu_20 qu_21 lo_22 hq_23) [0, 1, 2, 3, 4, 5, 6, 7, 8] rfl rfl rfl rfl 0 rfl rfl hl.1 rfl (Nat.le_of_ble_eq_true rfl) ⟨Nat.le_of_ble_eq_true rfl, Nat.le_of_ble_eq_true rfl⟩ (wSt cI a0 a1 a2 a3 a4 a5 a6 a7 a8 nu_20 va qu_21 sc lo_22 wt) rfl rfl dX2_lineComes_67 (fun H locs h => ?_)
        exact cut_70 nu_20 qu_21 lo_22 _ _ _ h (lv_sub hl [2] rfl) hf
      · replace hf := it_t hf hc
        refine lv_iconst (v := 0) hx hb dX2_lineComes_62 (by decide) ?_
        refine lv_goto (tgt := 67) hx hb dX2_lineComes_63 (by decide) ?_
        obtain ⟨nu_24, qu_25, lo_26, hq_27, hf⟩ := ob3_use hf
        refine r_callV C h (cw_X2_lineComes_X2_loseWaiting_79 C.hts) (rest := []) (ci := 2) (N := 6) (Cn := RX2) (T := TX2) (c_X2_loseWaiting l G cI cC cZ X a0 a1 a2 a3 a4 a5 a6 a7 a8 nu_2 va qu_3 sc lo wt r_18 (0 : Int32) nu_24 qu_25 lo_26 hq_27) [0, 1, 2, 3, 4, 5, 6, 7, 8] rfl rfl rfl rfl 0 rfl rfl hl.1 rfl (Nat.le_of_ble_eq_true rfl) ⟨Nat.le_of_ble_eq_true rfl, Nat.le_of_ble_eq_true rfl⟩ (wSt cI a0 a1 a2 a3 a4 a5 a6 a7 a8 nu_24 va qu_25 sc lo_26 wt) rfl rfl dX2_lineComes_67 (fun H locs h => ?_)
        exact cut_70 nu_24 qu_25 lo_26 _ _ _ h (lv_sub hl [2] rfl) hf
def rm_X2_skipToPicture : Room := { frames := 3, cells := 0, slots := 0, locals := 64 }
set_option maxRecDepth 20000 in
theorem lk_X2_skipToPicture_9 : Cond.fieldLink RX2 9 "LineDoubler$State" "numbers" "[I" ∈ wsX2_skipToPicture := List.mem_of_getElem? (i := 1) (by decide +kernel)
set_option maxRecDepth 20000 in
theorem lk_X2_skipToPicture_23 : Cond.fieldLink RX2 23 "LineDoubler$State" "queue" "LLineDoubler$Table;" ∈ wsX2_skipToPicture := List.mem_of_getElem? (i := 2) (by decide +kernel)
set_option maxRecDepth 20000 in
theorem in_X2_skipToPicture_X2 : ∀ x ∈ wsX20, x ∈ wsX2_skipToPicture := mem_r _ [28, 29, 30, 31, 32, 33] (by decide +kernel)
set_option maxRecDepth 20000 in
theorem cw_X2_skipToPicture_X3_read_93 {s : State} {args : Array Value} (hts : ∀ w ∈ wsX2_skipToPicture, w.before args s = true) : CallW rm_X2_skipToPicture s args RX2 RX3 93 yX3_read cX3_read 4 (some .int) wsX3_read rm_X3_read 0 0 2 :=
  cwV 2 hts gX2_skipToPicture_X3_read rfl rfl rfl (by decide +kernel) ⟨Nat.le_of_ble_eq_true rfl, Nat.le_of_ble_eq_true rfl⟩
set_option maxRecDepth 20000 in
theorem cw_X2_skipToPicture_X2_loseWaiting_79 {s : State} {args : Array Value} (hts : ∀ w ∈ wsX2_skipToPicture, w.before args s = true) : CallW rm_X2_skipToPicture s args RX2 RX2 79 yX2_loseWaiting cX2_loseWaiting 4 none wsX2_loseWaiting rm_X2_loseWaiting 0 0 2 :=
  cwV 2 hts gX2_skipToPicture_X2_loseWaiting rfl rfl rfl (by decide +kernel) ⟨Nat.le_of_ble_eq_true rfl, Nat.le_of_ble_eq_true rfl⟩
set_option maxHeartbeats 4000000 in
set_option maxRecDepth 100000 in
theorem c_X2_skipToPicture (l : Launch) (G : va_G) (cI cC cZ : ClassId) (X : List (ClassId × FieldType)) (a0 a1 a2 a3 a4 a5 a6 a7 a8 : Nat) (nu : Nat → Int32) (va : Nat → Int32) (qu : Nat → Int32) (sc : Nat → Int32) (lo : Nat → Int32) (wt : Int32) (nu' : Nat → Int32) (qu' : Nat → Int32) (lo' : Nat → Int32) (hf : fX2_skipToPicture nu qu lo = some (nu', qu', lo')) : CT l yX2_skipToPicture wsX2_skipToPicture rm_X2_skipToPicture G (TY cI cC cZ X) [.ref a0] (wSt cI a0 a1 a2 a3 a4 a5 a6 a7 a8 nu va qu sc lo wt) none (wSt cI a0 a1 a2 a3 a4 a5 a6 a7 a8 nu' va qu' sc lo' wt) := by
  refine CT.of (cc := cX2_skipToPicture) (maxL := 3) (ret := none) RX2 rfl (by decide) rfl (Nat.le_of_ble_eq_true rfl) ?_
  intro p e s m args below meth c A ls C hr hlocks hnm h hl
  have hx := C.hx
  have hb := C.hb
  have hl : lv_has ls 3 [(0, .ref a0)] := hl
  have cut_9 : ∀ (n : Nat) (nu : Nat → Int32) (qu : Nat → Int32) (lo : Nat → Int32) (x1 : Int32) (x2 : Int32) (H : Heap) (locs : List Loc) (ls : Array Slot), Hx s G A (wSt cI a0 a1 a2 a3 a4 a5 a6 a7 a8 nu va qu sc lo wt) H locs → lv_has ls 3 [(0, .ref a0), (1, .int x1), (2, .int x2)] → fX2_skipToPicture_9 n nu qu lo x1 x2 = some (nu', qu', lo') → W p l e rm_X2_skipToPicture s m args below meth c H locs 0 0 (MQ below (Qx G none (wSt cI a0 a1 a2 a3 a4 a5 a6 a7 a8 nu' va qu' sc lo' wt) A) args s 0 0 A) (F0 m 9 ls []) := by
    intro n
    induction n with
    | zero =>
      intro nu qu lo x1 x2 H locs ls h hl hf
      exact (nn_some _ hf).elim
    | succ n ih =>
      intro nu qu lo x1 x2 H locs ls h hl hf
      have hf : fX2_skipToPicture_9_b (fX2_skipToPicture_9 n) nu qu lo x1 x2 = some (nu', qu', lo') := hf
      unfold fX2_skipToPicture_9_b at hf
      refine lv_iload_n hx hb dX2_skipToPicture_9 rfl (lv_at hl 2 rfl) ?_
      refine lv_iload_n hx hb dX2_skipToPicture_10 rfl (lv_at hl 1 rfl) ?_
      refine lv_icmp_ge (tgt := 51) hx hb dX2_skipToPicture_11 (by decide) (fun hc => ?_) (fun hc => ?_)
      · replace hf := it_t hf hc
        cases hf
        exact r_vret C h hr hlocks dX2_skipToPicture_51
      · replace hf := it_f hf hc
        refine lv_aload_n hx hb dX2_skipToPicture_14 rfl (lv_at hl 0 rfl) ?_
        refine r_get C h 0 2 (ci := 2) (N := 6) (Cn := RX2) (T := TX2) rfl rfl (by decide) in_X2_skipToPicture_X2 lk_X2_skipToPicture_23 rfl dX2_skipToPicture_15 ?_
        refine lv_iconst (v := 0) hx hb dX2_skipToPicture_18 (by decide) ?_
        refine lv_iconst (v := 1) hx hb dX2_skipToPicture_19 (by decide) ?_
        obtain ⟨r_1, hq_2, hf⟩ := ob1_use hf
        refine r_callV C h (cw_X2_skipToPicture_X3_read_93 C.hts) (rest := []) (ci := 3) (N := 2) (Cn := RX3) (T := TX3) (c_X3_read l G cI cC cZ X a3 a4 4 68 qu (0 : Int32) (1 : Int32) r_1 hq_2) [3, 4] rfl rfl rfl rfl 3 rfl rfl hl.1 rfl (Nat.le_of_ble_eq_true rfl) ⟨Nat.le_of_ble_eq_true rfl, Nat.le_of_ble_eq_true rfl⟩ (wSt cI a0 a1 a2 a3 a4 a5 a6 a7 a8 nu va qu sc lo wt) rfl rfl dX2_skipToPicture_20 (fun H locs h => ?_)
        refine lv_if_ne (tgt := 39) hx hb dX2_skipToPicture_23 (by decide) (fun hc => ?_) (fun hc => ?_)
        · replace hf := it_f hf hc
          refine lv_aload_n hx hb dX2_skipToPicture_39 rfl (lv_at hl 0 rfl) ?_
          refine lv_iconst (v := 0) hx hb dX2_skipToPicture_40 (by decide) ?_
          refine lv_iconst (v := 2) hx hb dX2_skipToPicture_41 (by decide) ?_
          obtain ⟨nu_3, qu_4, lo_5, hq_6, hf⟩ := ob3_use hf
          refine r_callV C h (cw_X2_skipToPicture_X2_loseWaiting_79 C.hts) (rest := []) (ci := 2) (N := 6) (Cn := RX2) (T := TX2) (c_X2_loseWaiting l G cI cC cZ X a0 a1 a2 a3 a4 a5 a6 a7 a8 nu va qu sc lo wt (0 : Int32) (2 : Int32) nu_3 qu_4 lo_5 hq_6) [0, 1, 2, 3, 4, 5, 6, 7, 8] rfl rfl rfl rfl 0 rfl rfl hl.1 rfl (Nat.le_of_ble_eq_true rfl) ⟨Nat.le_of_ble_eq_true rfl, Nat.le_of_ble_eq_true rfl⟩ (wSt cI a0 a1 a2 a3 a4 a5 a6 a7 a8 nu_3 va qu_4 sc lo_5 wt) rfl rfl dX2_skipToPicture_42 (fun H locs h => ?_)
          obtain ⟨x2_7, ex2_7⟩ : ∃ y : Int32, y = x2 + 1 := ⟨_, rfl⟩
          replace hf := nm_use hf ex2_7
          refine lv_iinc (v := x2_7) (lv' := [(2, .int x2_7), (0, .ref a0), (1, .int x1)]) hx hb dX2_skipToPicture_45 hl (k := 2) rfl (by rw [ex2_7]; rfl) (by decide) rfl (fun ls hl => ?_)
          refine lv_goto (tgt := 9) hx hb dX2_skipToPicture_48 (by decide) ?_
          exact ih nu_3 qu_4 lo_5 x1 x2_7 _ _ _ h (lv_sub hl [1, 2, 0] rfl) hf
        · replace hf := it_t hf hc
          refine lv_aload_n hx hb dX2_skipToPicture_26 rfl (lv_at hl 0 rfl) ?_
          refine r_get C h 0 2 (ci := 2) (N := 6) (Cn := RX2) (T := TX2) rfl rfl (by decide) in_X2_skipToPicture_X2 lk_X2_skipToPicture_23 rfl dX2_skipToPicture_27 ?_
          refine lv_iconst (v := 0) hx hb dX2_skipToPicture_30 (by decide) ?_
          refine lv_iconst (v := 3) hx hb dX2_skipToPicture_31 (by decide) ?_
          obtain ⟨r_8, hq_9, hf⟩ := ob1_use hf
          refine r_callV C h (cw_X2_skipToPicture_X3_read_93 C.hts) (rest := []) (ci := 3) (N := 2) (Cn := RX3) (T := TX3) (c_X3_read l G cI cC cZ X a3 a4 4 68 qu (0 : Int32) (3 : Int32) r_8 hq_9) [3, 4] rfl rfl rfl rfl 3 rfl rfl hl.1 rfl (Nat.le_of_ble_eq_true rfl) ⟨Nat.le_of_ble_eq_true rfl, Nat.le_of_ble_eq_true rfl⟩ (wSt cI a0 a1 a2 a3 a4 a5 a6 a7 a8 nu va qu sc lo wt) rfl rfl dX2_skipToPicture_32 (fun H locs h => ?_)
          refine lv_if_ne (tgt := 39) hx hb dX2_skipToPicture_35 (by decide) (fun hc => ?_) (fun hc => ?_)
          · replace hf := it_f hf hc
            refine lv_aload_n hx hb dX2_skipToPicture_39 rfl (lv_at hl 0 rfl) ?_
            refine lv_iconst (v := 0) hx hb dX2_skipToPicture_40 (by decide) ?_
            refine lv_iconst (v := 2) hx hb dX2_skipToPicture_41 (by decide) ?_
            obtain ⟨nu_10, qu_11, lo_12, hq_13, hf⟩ := ob3_use hf
            refine r_callV C h (cw_X2_skipToPicture_X2_loseWaiting_79 C.hts) (rest := []) (ci := 2) (N := 6) (Cn := RX2) (T := TX2) (c_X2_loseWaiting l G cI cC cZ X a0 a1 a2 a3 a4 a5 a6 a7 a8 nu va qu sc lo wt (0 : Int32) (2 : Int32) nu_10 qu_11 lo_12 hq_13) [0, 1, 2, 3, 4, 5, 6, 7, 8] rfl rfl rfl rfl 0 rfl rfl hl.1 rfl (Nat.le_of_ble_eq_true rfl) ⟨Nat.le_of_ble_eq_true rfl, Nat.le_of_ble_eq_true rfl⟩ (wSt cI a0 a1 a2 a3 a4 a5 a6 a7 a8 nu_10 va qu_11 sc lo_12 wt) rfl rfl dX2_skipToPicture_42 (fun H locs h => ?_)
            obtain ⟨x2_14, ex2_14⟩ : ∃ y : Int32, y = x2 + 1 := ⟨_, rfl⟩
            replace hf := nm_use hf ex2_14
            refine lv_iinc (v := x2_14) (lv' := [(2, .int x2_14), (0, .ref a0), (1, .int x1)]) hx hb dX2_skipToPicture_45 hl (k := 2) rfl (by rw [ex2_14]; rfl) (by decide) rfl (fun ls hl => ?_)
            refine lv_goto (tgt := 9) hx hb dX2_skipToPicture_48 (by decide) ?_
            exact ih nu_10 qu_11 lo_12 x1 x2_14 _ _ _ h (lv_sub hl [1, 2, 0] rfl) hf
          · replace hf := it_t hf hc
            cases hf
            exact r_vret C h hr hlocks dX2_skipToPicture_38
  unfold fX2_skipToPicture at hf
  refine lv_aload_n hx hb dX2_skipToPicture_0 rfl (lv_at hl 0 rfl) ?_
  refine r_get C h 0 0 (ci := 2) (N := 6) (Cn := RX2) (T := TX2) rfl rfl (by decide) in_X2_skipToPicture_X2 lk_X2_skipToPicture_9 rfl dX2_skipToPicture_1 ?_
  refine lv_iconst (v := 2) hx hb dX2_skipToPicture_4 (by decide) ?_
  refine r_ald C h 1 rfl rfl k_2_24 dX2_skipToPicture_5 ?_
  refine lv_topi (fun x1_1 ex1_1 => ?_)
  replace hf := nm_use hf ex1_1
  refine lv_istore_n (lv' := [(1, .int x1_1), (0, .ref a0)]) hx hb dX2_skipToPicture_6 rfl hl (by decide) rfl (fun ls hl => ?_)
  refine lv_iconst (v := 0) hx hb dX2_skipToPicture_7 (by decide) ?_
  refine lv_istore_n (lv' := [(2, .int 0), (1, .int x1_1), (0, .ref a0)]) hx hb dX2_skipToPicture_8 rfl hl (by decide) rfl (fun ls hl => ?_)
  exact cut_9 KF nu qu lo x1_1 0 _ _ _ h (lv_sub hl [2, 1, 0] rfl) hf
def rm_X2_showFirstWaiting : Room := { frames := 2, cells := 0, slots := 0, locals := 41 }
set_option maxRecDepth 20000 in
theorem lk_X2_showFirstWaiting_27 : Cond.fieldLink RX2 27 "LineDoubler$State" "screen" "LLineDoubler$Table;" ∈ wsX2_showFirstWaiting := List.mem_of_getElem? (i := 1) (by decide +kernel)
set_option maxRecDepth 20000 in
theorem lk_X2_showFirstWaiting_23 : Cond.fieldLink RX2 23 "LineDoubler$State" "queue" "LLineDoubler$Table;" ∈ wsX2_showFirstWaiting := List.mem_of_getElem? (i := 2) (by decide +kernel)
set_option maxRecDepth 20000 in
theorem lk_X2_showFirstWaiting_9 : Cond.fieldLink RX2 9 "LineDoubler$State" "numbers" "[I" ∈ wsX2_showFirstWaiting := List.mem_of_getElem? (i := 3) (by decide +kernel)
set_option maxRecDepth 20000 in
theorem in_X2_showFirstWaiting_X2 : ∀ x ∈ wsX20, x ∈ wsX2_showFirstWaiting := mem_r _ [23, 24, 25, 26, 27, 28] (by decide +kernel)
set_option maxRecDepth 20000 in
theorem cw_X2_showFirstWaiting_X3_read_93 {s : State} {args : Array Value} (hts : ∀ w ∈ wsX2_showFirstWaiting, w.before args s = true) : CallW rm_X2_showFirstWaiting s args RX2 RX3 93 yX3_read cX3_read 4 (some .int) wsX3_read rm_X3_read 0 0 2 :=
  cwV 2 hts gX2_showFirstWaiting_X3_read rfl rfl rfl (by decide +kernel) ⟨Nat.le_of_ble_eq_true rfl, Nat.le_of_ble_eq_true rfl⟩
set_option maxRecDepth 20000 in
theorem cw_X2_showFirstWaiting_X3_write_90 {s : State} {args : Array Value} (hts : ∀ w ∈ wsX2_showFirstWaiting, w.before args s = true) : CallW rm_X2_showFirstWaiting s args RX2 RX3 90 yX3_write cX3_write 5 none wsX3_write rm_X3_write 0 0 3 :=
  cwV 3 hts gX2_showFirstWaiting_X3_write rfl rfl rfl (by decide +kernel) ⟨Nat.le_of_ble_eq_true rfl, Nat.le_of_ble_eq_true rfl⟩
set_option maxRecDepth 20000 in
theorem cw_X2_showFirstWaiting_X3_removeRow_96 {s : State} {args : Array Value} (hts : ∀ w ∈ wsX2_showFirstWaiting, w.before args s = true) : CallW rm_X2_showFirstWaiting s args RX2 RX3 96 yX3_removeRow cX3_removeRow 4 none wsX3_removeRow rm_X3_removeRow 0 0 1 :=
  cwV 1 hts gX2_showFirstWaiting_X3_removeRow rfl rfl rfl (by decide +kernel) ⟨Nat.le_of_ble_eq_true rfl, Nat.le_of_ble_eq_true rfl⟩
set_option maxHeartbeats 4000000 in
set_option maxRecDepth 100000 in
theorem c_X2_showFirstWaiting (l : Launch) (G : va_G) (cI cC cZ : ClassId) (X : List (ClassId × FieldType)) (a0 a1 a2 a3 a4 a5 a6 a7 a8 : Nat) (nu : Nat → Int32) (va : Nat → Int32) (qu : Nat → Int32) (sc : Nat → Int32) (lo : Nat → Int32) (wt : Int32) (x1 : Int32) (nu' : Nat → Int32) (qu' : Nat → Int32) (sc' : Nat → Int32) (hf : fX2_showFirstWaiting nu qu sc x1 = some (nu', qu', sc')) : CT l yX2_showFirstWaiting wsX2_showFirstWaiting rm_X2_showFirstWaiting G (TY cI cC cZ X) [.ref a0, .int x1] (wSt cI a0 a1 a2 a3 a4 a5 a6 a7 a8 nu va qu sc lo wt) none (wSt cI a0 a1 a2 a3 a4 a5 a6 a7 a8 nu' va qu' sc' lo wt) := by
  refine CT.of (cc := cX2_showFirstWaiting) (maxL := 2) (ret := none) RX2 rfl (by decide) rfl (Nat.le_of_ble_eq_true rfl) ?_
  intro p e s m args below meth c A ls C hr hlocks hnm h hl
  have hx := C.hx
  have hb := C.hb
  have hl : lv_has ls 2 [(0, .ref a0), (1, .int x1)] := hl
  unfold fX2_showFirstWaiting at hf
  refine lv_aload_n hx hb dX2_showFirstWaiting_0 rfl (lv_at hl 0 rfl) ?_
  refine r_get C h 0 3 (ci := 2) (N := 6) (Cn := RX2) (T := TX2) rfl rfl (by decide) in_X2_showFirstWaiting_X2 lk_X2_showFirstWaiting_27 rfl dX2_showFirstWaiting_1 ?_
  refine lv_iload_n hx hb dX2_showFirstWaiting_4 rfl (lv_at hl 1 rfl) ?_
  refine lv_iconst (v := 0) hx hb dX2_showFirstWaiting_5 (by decide) ?_
  refine lv_aload_n hx hb dX2_showFirstWaiting_6 rfl (lv_at hl 0 rfl) ?_
  refine r_get C h 0 2 (ci := 2) (N := 6) (Cn := RX2) (T := TX2) rfl rfl (by decide) in_X2_showFirstWaiting_X2 lk_X2_showFirstWaiting_23 rfl dX2_showFirstWaiting_7 ?_
  refine lv_iconst (v := 0) hx hb dX2_showFirstWaiting_10 (by decide) ?_
  refine lv_iconst (v := 2) hx hb dX2_showFirstWaiting_11 (by decide) ?_
  obtain ⟨r_1, hq_2, hf⟩ := ob1_use hf
  refine r_callV C h (cw_X2_showFirstWaiting_X3_read_93 C.hts) (rest := [.int 0, .int x1, .ref a5]) (ci := 3) (N := 2) (Cn := RX3) (T := TX3) (c_X3_read l G cI cC cZ X a3 a4 4 68 qu (0 : Int32) (2 : Int32) r_1 hq_2) [3, 4] rfl rfl rfl rfl 3 rfl rfl hl.1 rfl (Nat.le_of_ble_eq_true rfl) ⟨Nat.le_of_ble_eq_true rfl, Nat.le_of_ble_eq_true rfl⟩ (wSt cI a0 a1 a2 a3 a4 a5 a6 a7 a8 nu va qu sc lo wt) rfl rfl dX2_showFirstWaiting_12 (fun H locs h => ?_)
  obtain ⟨sc_3, hq_4, hf⟩ := ob1_use hf
  refine r_callV C h (cw_X2_showFirstWaiting_X3_write_90 C.hts) (rest := []) (ci := 3) (N := 2) (Cn := RX3) (T := TX3) (c_X3_write l G cI cC cZ X a5 a6 3 96 sc x1 (0 : Int32) r_1 sc_3 hq_4) [5, 6] rfl rfl rfl rfl 5 rfl rfl hl.1 rfl (Nat.le_of_ble_eq_true rfl) ⟨Nat.le_of_ble_eq_true rfl, Nat.le_of_ble_eq_true rfl⟩ (wSt cI a0 a1 a2 a3 a4 a5 a6 a7 a8 nu va qu sc_3 lo wt) rfl rfl dX2_showFirstWaiting_15 (fun H locs h => ?_)
  refine lv_aload_n hx hb dX2_showFirstWaiting_18 rfl (lv_at hl 0 rfl) ?_
  refine r_get C h 0 3 (ci := 2) (N := 6) (Cn := RX2) (T := TX2) rfl rfl (by decide) in_X2_showFirstWaiting_X2 lk_X2_showFirstWaiting_27 rfl dX2_showFirstWaiting_19 ?_
  refine lv_iload_n hx hb dX2_showFirstWaiting_22 rfl (lv_at hl 1 rfl) ?_
  refine lv_iconst (v := 1) hx hb dX2_showFirstWaiting_23 (by decide) ?_
  refine lv_aload_n hx hb dX2_showFirstWaiting_24 rfl (lv_at hl 0 rfl) ?_
  refine r_get C h 0 2 (ci := 2) (N := 6) (Cn := RX2) (T := TX2) rfl rfl (by decide) in_X2_showFirstWaiting_X2 lk_X2_showFirstWaiting_23 rfl dX2_showFirstWaiting_25 ?_
  refine lv_iconst (v := 0) hx hb dX2_showFirstWaiting_28 (by decide) ?_
  refine lv_iconst (v := 0) hx hb dX2_showFirstWaiting_29 (by decide) ?_
  obtain ⟨r_5, hq_6, hf⟩ := ob1_use hf
  refine r_callV C h (cw_X2_showFirstWaiting_X3_read_93 C.hts) (rest := [.int 1, .int x1, .ref a5]) (ci := 3) (N := 2) (Cn := RX3) (T := TX3) (c_X3_read l G cI cC cZ X a3 a4 4 68 qu (0 : Int32) (0 : Int32) r_5 hq_6) [3, 4] rfl rfl rfl rfl 3 rfl rfl hl.1 rfl (Nat.le_of_ble_eq_true rfl) ⟨Nat.le_of_ble_eq_true rfl, Nat.le_of_ble_eq_true rfl⟩ (wSt cI a0 a1 a2 a3 a4 a5 a6 a7 a8 nu va qu sc_3 lo wt) rfl rfl dX2_showFirstWaiting_30 (fun H locs h => ?_)
  obtain ⟨sc_7, hq_8, hf⟩ := ob1_use hf
  refine r_callV C h (cw_X2_showFirstWaiting_X3_write_90 C.hts) (rest := []) (ci := 3) (N := 2) (Cn := RX3) (T := TX3) (c_X3_write l G cI cC cZ X a5 a6 3 96 sc_3 x1 (1 : Int32) r_5 sc_7 hq_8) [5, 6] rfl rfl rfl rfl 5 rfl rfl hl.1 rfl (Nat.le_of_ble_eq_true rfl) ⟨Nat.le_of_ble_eq_true rfl, Nat.le_of_ble_eq_true rfl⟩ (wSt cI a0 a1 a2 a3 a4 a5 a6 a7 a8 nu va qu sc_7 lo wt) rfl rfl dX2_showFirstWaiting_33 (fun H locs h => ?_)
  refine lv_aload_n hx hb dX2_showFirstWaiting_36 rfl (lv_at hl 0 rfl) ?_
  refine r_get C h 0 3 (ci := 2) (N := 6) (Cn := RX2) (T := TX2) rfl rfl (by decide) in_X2_showFirstWaiting_X2 lk_X2_showFirstWaiting_27 rfl dX2_showFirstWaiting_37 ?_
  refine lv_iload_n hx hb dX2_showFirstWaiting_40 rfl (lv_at hl 1 rfl) ?_
  refine lv_iconst (v := 2) hx hb dX2_showFirstWaiting_41 (by decide) ?_
  refine lv_aload_n hx hb dX2_showFirstWaiting_42 rfl (lv_at hl 0 rfl) ?_
  refine r_get C h 0 2 (ci := 2) (N := 6) (Cn := RX2) (T := TX2) rfl rfl (by decide) in_X2_showFirstWaiting_X2 lk_X2_showFirstWaiting_23 rfl dX2_showFirstWaiting_43 ?_
  refine lv_iconst (v := 0) hx hb dX2_showFirstWaiting_46 (by decide) ?_
  refine lv_iconst (v := 1) hx hb dX2_showFirstWaiting_47 (by decide) ?_
  obtain ⟨r_9, hq_10, hf⟩ := ob1_use hf
  refine r_callV C h (cw_X2_showFirstWaiting_X3_read_93 C.hts) (rest := [.int 2, .int x1, .ref a5]) (ci := 3) (N := 2) (Cn := RX3) (T := TX3) (c_X3_read l G cI cC cZ X a3 a4 4 68 qu (0 : Int32) (1 : Int32) r_9 hq_10) [3, 4] rfl rfl rfl rfl 3 rfl rfl hl.1 rfl (Nat.le_of_ble_eq_true rfl) ⟨Nat.le_of_ble_eq_true rfl, Nat.le_of_ble_eq_true rfl⟩ (wSt cI a0 a1 a2 a3 a4 a5 a6 a7 a8 nu va qu sc_7 lo wt) rfl rfl dX2_showFirstWaiting_48 (fun H locs h => ?_)
  obtain ⟨sc_11, hq_12, hf⟩ := ob1_use hf
  refine r_callV C h (cw_X2_showFirstWaiting_X3_write_90 C.hts) (rest := []) (ci := 3) (N := 2) (Cn := RX3) (T := TX3) (c_X3_write l G cI cC cZ X a5 a6 3 96 sc_7 x1 (2 : Int32) r_9 sc_11 hq_12) [5, 6] rfl rfl rfl rfl 5 rfl rfl hl.1 rfl (Nat.le_of_ble_eq_true rfl) ⟨Nat.le_of_ble_eq_true rfl, Nat.le_of_ble_eq_true rfl⟩ (wSt cI a0 a1 a2 a3 a4 a5 a6 a7 a8 nu va qu sc_11 lo wt) rfl rfl dX2_showFirstWaiting_51 (fun H locs h => ?_)
  refine lv_aload_n hx hb dX2_showFirstWaiting_54 rfl (lv_at hl 0 rfl) ?_
  refine r_get C h 0 2 (ci := 2) (N := 6) (Cn := RX2) (T := TX2) rfl rfl (by decide) in_X2_showFirstWaiting_X2 lk_X2_showFirstWaiting_23 rfl dX2_showFirstWaiting_55 ?_
  refine lv_iconst (v := 0) hx hb dX2_showFirstWaiting_58 (by decide) ?_
  refine lv_iconst (v := 3) hx hb dX2_showFirstWaiting_59 (by decide) ?_
  obtain ⟨r_13, hq_14, hf⟩ := ob1_use hf
  refine r_callV C h (cw_X2_showFirstWaiting_X3_read_93 C.hts) (rest := []) (ci := 3) (N := 2) (Cn := RX3) (T := TX3) (c_X3_read l G cI cC cZ X a3 a4 4 68 qu (0 : Int32) (3 : Int32) r_13 hq_14) [3, 4] rfl rfl rfl rfl 3 rfl rfl hl.1 rfl (Nat.le_of_ble_eq_true rfl) ⟨Nat.le_of_ble_eq_true rfl, Nat.le_of_ble_eq_true rfl⟩ (wSt cI a0 a1 a2 a3 a4 a5 a6 a7 a8 nu va qu sc_11 lo wt) rfl rfl dX2_showFirstWaiting_60 (fun H locs h => ?_)
  refine lv_if_ne (tgt := 79) hx hb dX2_showFirstWaiting_63 (by decide) (fun hc => ?_) (fun hc => ?_)
  · replace hf := it_f hf hc
    refine lv_aload_n hx hb dX2_showFirstWaiting_79 rfl (lv_at hl 0 rfl) ?_
    refine r_get C h 0 2 (ci := 2) (N := 6) (Cn := RX2) (T := TX2) rfl rfl (by decide) in_X2_showFirstWaiting_X2 lk_X2_showFirstWaiting_23 rfl dX2_showFirstWaiting_80 ?_
    refine lv_iconst (v := 0) hx hb dX2_showFirstWaiting_83 (by decide) ?_
    obtain ⟨qu_15, hq_16, hf⟩ := ob1_use hf
    refine r_callV C h (cw_X2_showFirstWaiting_X3_removeRow_96 C.hts) (rest := []) (ci := 3) (N := 2) (Cn := RX3) (T := TX3) (c_X3_removeRow l G cI cC cZ X a3 a4 4 68 qu (0 : Int32) qu_15 hq_16) [3, 4] rfl rfl rfl rfl 3 rfl rfl hl.1 rfl (Nat.le_of_ble_eq_true rfl) ⟨Nat.le_of_ble_eq_true rfl, Nat.le_of_ble_eq_true rfl⟩ (wSt cI a0 a1 a2 a3 a4 a5 a6 a7 a8 nu va qu_15 sc_11 lo wt) rfl rfl dX2_showFirstWaiting_84 (fun H locs h => ?_)
    refine lv_aload_n hx hb dX2_showFirstWaiting_87 rfl (lv_at hl 0 rfl) ?_
    refine r_get C h 0 0 (ci := 2) (N := 6) (Cn := RX2) (T := TX2) rfl rfl (by decide) in_X2_showFirstWaiting_X2 lk_X2_showFirstWaiting_9 rfl dX2_showFirstWaiting_88 ?_
    refine lv_iconst (v := 2) hx hb dX2_showFirstWaiting_91 (by decide) ?_
    refine lv_dup2_11 hx hb dX2_showFirstWaiting_92 rfl rfl ?_
    refine r_ald C h 1 rfl rfl k_2_24 dX2_showFirstWaiting_93 ?_
    refine lv_iconst (v := 1) hx hb dX2_showFirstWaiting_94 (by decide) ?_
    refine lv_isub hx hb dX2_showFirstWaiting_95 ?_
    refine r_ast C h 1 rfl rfl k_2_24 (fun z__ => (wSt cI a0 a1 a2 a3 a4 a5 a6 a7 a8 z__ va qu_15 sc_11 lo wt)) (fun _ => rfl) dX2_showFirstWaiting_96 (fun nu_17 enu_17 H locs h => ?_)
    replace hf := nm_use hf enu_17
    refine lv_aload_n hx hb dX2_showFirstWaiting_97 rfl (lv_at hl 0 rfl) ?_
    refine r_get C h 0 0 (ci := 2) (N := 6) (Cn := RX2) (T := TX2) rfl rfl (by decide) in_X2_showFirstWaiting_X2 lk_X2_showFirstWaiting_9 rfl dX2_showFirstWaiting_98 ?_
    refine lv_iconst (v := 3) hx hb dX2_showFirstWaiting_101 (by decide) ?_
    refine lv_dup2_11 hx hb dX2_showFirstWaiting_102 rfl rfl ?_
    refine r_ald C h 1 rfl rfl k_3_24 dX2_showFirstWaiting_103 ?_
    refine lv_iconst (v := 1) hx hb dX2_showFirstWaiting_104 (by decide) ?_
    refine lv_iadd hx hb dX2_showFirstWaiting_105 ?_
    refine r_ast C h 1 rfl rfl k_3_24 (fun z__ => (wSt cI a0 a1 a2 a3 a4 a5 a6 a7 a8 z__ va qu_15 sc_11 lo wt)) (fun _ => rfl) dX2_showFirstWaiting_106 (fun nu_18 enu_18 H locs h => ?_)
    replace hf := nm_use hf enu_18
    cases hf
    exact r_vret C h hr hlocks dX2_showFirstWaiting_107
  · replace hf := it_t hf hc
    refine lv_aload_n hx hb dX2_showFirstWaiting_66 rfl (lv_at hl 0 rfl) ?_
    refine r_get C h 0 2 (ci := 2) (N := 6) (Cn := RX2) (T := TX2) rfl rfl (by decide) in_X2_showFirstWaiting_X2 lk_X2_showFirstWaiting_23 rfl dX2_showFirstWaiting_67 ?_
    refine lv_iconst (v := 0) hx hb dX2_showFirstWaiting_70 (by decide) ?_
    refine lv_iconst (v := 3) hx hb dX2_showFirstWaiting_71 (by decide) ?_
    refine lv_iconst (v := 1) hx hb dX2_showFirstWaiting_72 (by decide) ?_
    obtain ⟨qu_19, hq_20, hf⟩ := ob1_use hf
    refine r_callV C h (cw_X2_showFirstWaiting_X3_write_90 C.hts) (rest := []) (ci := 3) (N := 2) (Cn := RX3) (T := TX3) (c_X3_write l G cI cC cZ X a3 a4 4 68 qu (0 : Int32) (3 : Int32) (1 : Int32) qu_19 hq_20) [3, 4] rfl rfl rfl rfl 3 rfl rfl hl.1 rfl (Nat.le_of_ble_eq_true rfl) ⟨Nat.le_of_ble_eq_true rfl, Nat.le_of_ble_eq_true rfl⟩ (wSt cI a0 a1 a2 a3 a4 a5 a6 a7 a8 nu va qu_19 sc_11 lo wt) rfl rfl dX2_showFirstWaiting_73 (fun H locs h => ?_)
    refine lv_goto (tgt := 107) hx hb dX2_showFirstWaiting_76 (by decide) ?_
    cases hf
    exact r_vret C h hr hlocks dX2_showFirstWaiting_107
def rm_X2_showColour : Room := { frames := 2, cells := 0, slots := 0, locals := 43 }
set_option maxRecDepth 20000 in
theorem lk_X2_showColour_27 : Cond.fieldLink RX2 27 "LineDoubler$State" "screen" "LLineDoubler$Table;" ∈ wsX2_showColour := List.mem_of_getElem? (i := 1) (by decide +kernel)
set_option maxRecDepth 20000 in
theorem lk_X2_showColour_9 : Cond.fieldLink RX2 9 "LineDoubler$State" "numbers" "[I" ∈ wsX2_showColour := List.mem_of_getElem? (i := 2) (by decide +kernel)
set_option maxRecDepth 20000 in
theorem in_X2_showColour_X2 : ∀ x ∈ wsX20, x ∈ wsX2_showColour := mem_r _ [18, 19, 20, 21, 22, 23] (by decide +kernel)
set_option maxRecDepth 20000 in
theorem cw_X2_showColour_X2_setting_54 {s : State} {args : Array Value} (hts : ∀ w ∈ wsX2_showColour, w.before args s = true) : CallW rm_X2_showColour s args RX2 RX2 54 yX2_setting cX2_setting 2 (some .int) wsX2_setting rm_X2_setting 0 0 1 :=
  cwV 1 hts gX2_showColour_X2_setting rfl rfl rfl (by decide +kernel) ⟨Nat.le_of_ble_eq_true rfl, Nat.le_of_ble_eq_true rfl⟩
set_option maxRecDepth 20000 in
theorem cw_X2_showColour_X3_write_90 {s : State} {args : Array Value} (hts : ∀ w ∈ wsX2_showColour, w.before args s = true) : CallW rm_X2_showColour s args RX2 RX3 90 yX3_write cX3_write 5 none wsX3_write rm_X3_write 0 0 3 :=
  cwV 3 hts gX2_showColour_X3_write rfl rfl rfl (by decide +kernel) ⟨Nat.le_of_ble_eq_true rfl, Nat.le_of_ble_eq_true rfl⟩
set_option maxHeartbeats 4000000 in
set_option maxRecDepth 100000 in
theorem c_X2_showColour (l : Launch) (G : va_G) (cI cC cZ : ClassId) (X : List (ClassId × FieldType)) (a0 a1 a2 a3 a4 a5 a6 a7 a8 : Nat) (nu : Nat → Int32) (va : Nat → Int32) (qu : Nat → Int32) (sc : Nat → Int32) (lo : Nat → Int32) (wt : Int32) (x1 : Int32) (nu' : Nat → Int32) (sc' : Nat → Int32) (hf : fX2_showColour nu sc x1 = some (nu', sc')) : CT l yX2_showColour wsX2_showColour rm_X2_showColour G (TY cI cC cZ X) [.ref a0, .int x1] (wSt cI a0 a1 a2 a3 a4 a5 a6 a7 a8 nu va qu sc lo wt) none (wSt cI a0 a1 a2 a3 a4 a5 a6 a7 a8 nu' va qu sc' lo wt) := by
  refine CT.of (cc := cX2_showColour) (maxL := 2) (ret := none) RX2 rfl (by decide) rfl (Nat.le_of_ble_eq_true rfl) ?_
  intro p e s m args below meth c A ls C hr hlocks hnm h hl
  have hx := C.hx
  have hb := C.hb
  have hl : lv_has ls 2 [(0, .ref a0), (1, .int x1)] := hl
  unfold fX2_showColour at hf
  refine lv_aload_n hx hb dX2_showColour_0 rfl (lv_at hl 0 rfl) ?_
  refine r_get C h 0 3 (ci := 2) (N := 6) (Cn := RX2) (T := TX2) rfl rfl (by decide) in_X2_showColour_X2 lk_X2_showColour_27 rfl dX2_showColour_1 ?_
  refine lv_iload_n hx hb dX2_showColour_4 rfl (lv_at hl 1 rfl) ?_
  refine lv_iconst (v := 0) hx hb dX2_showColour_5 (by decide) ?_
  refine lv_aload_n hx hb dX2_showColour_6 rfl (lv_at hl 0 rfl) ?_
  refine lv_bipush (v := 6) hx hb dX2_showColour_7 (by decide) ?_
  obtain ⟨r_1, hq_2, hf⟩ := ob1_use hf
  refine r_callV C h (cw_X2_showColour_X2_setting_54 C.hts) (rest := [.int 0, .int x1, .ref a5]) (ci := 2) (N := 6) (Cn := RX2) (T := TX2) (c_X2_setting l G cI cC cZ X a0 a1 a2 a3 a4 a5 a6 a7 a8 nu va qu sc lo wt (6 : Int32) r_1 hq_2) [0, 1, 2, 3, 4, 5, 6, 7, 8] rfl rfl rfl rfl 0 rfl rfl hl.1 rfl (Nat.le_of_ble_eq_true rfl) ⟨Nat.le_of_ble_eq_true rfl, Nat.le_of_ble_eq_true rfl⟩ (wSt cI a0 a1 a2 a3 a4 a5 a6 a7 a8 nu va qu sc lo wt) rfl rfl dX2_showColour_9 (fun H locs h => ?_)
  obtain ⟨sc_3, hq_4, hf⟩ := ob1_use hf
  refine r_callV C h (cw_X2_showColour_X3_write_90 C.hts) (rest := []) (ci := 3) (N := 2) (Cn := RX3) (T := TX3) (c_X3_write l G cI cC cZ X a5 a6 3 96 sc x1 (0 : Int32) r_1 sc_3 hq_4) [5, 6] rfl rfl rfl rfl 5 rfl rfl hl.1 rfl (Nat.le_of_ble_eq_true rfl) ⟨Nat.le_of_ble_eq_true rfl, Nat.le_of_ble_eq_true rfl⟩ (wSt cI a0 a1 a2 a3 a4 a5 a6 a7 a8 nu va qu sc_3 lo wt) rfl rfl dX2_showColour_12 (fun H locs h => ?_)
  refine lv_aload_n hx hb dX2_showColour_15 rfl (lv_at hl 0 rfl) ?_
  refine r_get C h 0 3 (ci := 2) (N := 6) (Cn := RX2) (T := TX2) rfl rfl (by decide) in_X2_showColour_X2 lk_X2_showColour_27 rfl dX2_showColour_16 ?_
  refine lv_iload_n hx hb dX2_showColour_19 rfl (lv_at hl 1 rfl) ?_
  refine lv_iconst (v := 1) hx hb dX2_showColour_20 (by decide) ?_
  refine lv_bipush (v := (-6)) hx hb dX2_showColour_21 (by decide) ?_
  obtain ⟨sc_5, hq_6, hf⟩ := ob1_use hf
  refine r_callV C h (cw_X2_showColour_X3_write_90 C.hts) (rest := []) (ci := 3) (N := 2) (Cn := RX3) (T := TX3) (c_X3_write l G cI cC cZ X a5 a6 3 96 sc_3 x1 (1 : Int32) (-6 : Int32) sc_5 hq_6) [5, 6] rfl rfl rfl rfl 5 rfl rfl hl.1 rfl (Nat.le_of_ble_eq_true rfl) ⟨Nat.le_of_ble_eq_true rfl, Nat.le_of_ble_eq_true rfl⟩ (wSt cI a0 a1 a2 a3 a4 a5 a6 a7 a8 nu va qu sc_5 lo wt) rfl rfl dX2_showColour_23 (fun H locs h => ?_)
  refine lv_aload_n hx hb dX2_showColour_26 rfl (lv_at hl 0 rfl) ?_
  refine r_get C h 0 3 (ci := 2) (N := 6) (Cn := RX2) (T := TX2) rfl rfl (by decide) in_X2_showColour_X2 lk_X2_showColour_27 rfl dX2_showColour_27 ?_
  refine lv_iload_n hx hb dX2_showColour_30 rfl (lv_at hl 1 rfl) ?_
  refine lv_iconst (v := 2) hx hb dX2_showColour_31 (by decide) ?_
  refine lv_bipush (v := (-6)) hx hb dX2_showColour_32 (by decide) ?_
  obtain ⟨sc_7, hq_8, hf⟩ := ob1_use hf
  refine r_callV C h (cw_X2_showColour_X3_write_90 C.hts) (rest := []) (ci := 3) (N := 2) (Cn := RX3) (T := TX3) (c_X3_write l G cI cC cZ X a5 a6 3 96 sc_5 x1 (2 : Int32) (-6 : Int32) sc_7 hq_8) [5, 6] rfl rfl rfl rfl 5 rfl rfl hl.1 rfl (Nat.le_of_ble_eq_true rfl) ⟨Nat.le_of_ble_eq_true rfl, Nat.le_of_ble_eq_true rfl⟩ (wSt cI a0 a1 a2 a3 a4 a5 a6 a7 a8 nu va qu sc_7 lo wt) rfl rfl dX2_showColour_34 (fun H locs h => ?_)
  refine lv_aload_n hx hb dX2_showColour_37 rfl (lv_at hl 0 rfl) ?_
  refine r_get C h 0 0 (ci := 2) (N := 6) (Cn := RX2) (T := TX2) rfl rfl (by decide) in_X2_showColour_X2 lk_X2_showColour_9 rfl dX2_showColour_38 ?_
  refine lv_bipush (v := 6) hx hb dX2_showColour_41 (by decide) ?_
  refine lv_dup2_11 hx hb dX2_showColour_43 rfl rfl ?_
  refine r_ald C h 1 rfl rfl k_6_24 dX2_showColour_44 ?_
  refine lv_iconst (v := 1) hx hb dX2_showColour_45 (by decide) ?_
  refine lv_iadd hx hb dX2_showColour_46 ?_
  refine r_ast C h 1 rfl rfl k_6_24 (fun z__ => (wSt cI a0 a1 a2 a3 a4 a5 a6 a7 a8 z__ va qu sc_7 lo wt)) (fun _ => rfl) dX2_showColour_47 (fun nu_9 enu_9 H locs h => ?_)
  replace hf := nm_use hf enu_9
  cases hf
  exact r_vret C h hr hlocks dX2_showColour_48
def rm_X2_judgeScreen : Room := { frames := 1, cells := 0, slots := 0, locals := 23 }
set_option maxRecDepth 20000 in
theorem lk_X2_judgeScreen_27 : Cond.fieldLink RX2 27 "LineDoubler$State" "screen" "LLineDoubler$Table;" ∈ wsX2_judgeScreen := List.mem_of_getElem? (i := 1) (by decide +kernel)
set_option maxRecDepth 20000 in
theorem in_X2_judgeScreen_X2 : ∀ x ∈ wsX20, x ∈ wsX2_judgeScreen := mem_r _ [9, 10, 11, 12, 13, 14] (by decide +kernel)
set_option maxRecDepth 20000 in
theorem cw_X2_judgeScreen_X3_read_93 {s : State} {args : Array Value} (hts : ∀ w ∈ wsX2_judgeScreen, w.before args s = true) : CallW rm_X2_judgeScreen s args RX2 RX3 93 yX3_read cX3_read 4 (some .int) wsX3_read rm_X3_read 0 0 2 :=
  cwV 2 hts gX2_judgeScreen_X3_read rfl rfl rfl (by decide +kernel) ⟨Nat.le_of_ble_eq_true rfl, Nat.le_of_ble_eq_true rfl⟩
set_option maxHeartbeats 4000000 in
set_option maxRecDepth 100000 in
theorem c_X2_judgeScreen (l : Launch) (G : va_G) (cI cC cZ : ClassId) (X : List (ClassId × FieldType)) (a0 a1 a2 a3 a4 a5 a6 a7 a8 : Nat) (nu : Nat → Int32) (va : Nat → Int32) (qu : Nat → Int32) (sc : Nat → Int32) (lo : Nat → Int32) (wt : Int32) (x1 : Int32) (rv : Int32) (hf : fX2_judgeScreen sc x1 = some (rv)) : CT l yX2_judgeScreen wsX2_judgeScreen rm_X2_judgeScreen G (TY cI cC cZ X) [.ref a0, .int x1] (wSt cI a0 a1 a2 a3 a4 a5 a6 a7 a8 nu va qu sc lo wt) (some (.int rv)) (wSt cI a0 a1 a2 a3 a4 a5 a6 a7 a8 nu va qu sc lo wt) := by
  refine CT.of (cc := cX2_judgeScreen) (maxL := 5) (ret := (some .int)) RX2 rfl (by decide) rfl (Nat.le_of_ble_eq_true rfl) ?_
  intro p e s m args below meth c A ls C hr hlocks hnm h hl
  have hx := C.hx
  have hb := C.hb
  have hl : lv_has ls 5 [(0, .ref a0), (1, .int x1)] := hl
  have cut_15 : ∀ (n : Nat) (x1 : Int32) (x2 : Int32) (x3 : Int32) (x4 : Int32) (H : Heap) (locs : List Loc) (ls : Array Slot), Hx s G A (wSt cI a0 a1 a2 a3 a4 a5 a6 a7 a8 nu va qu sc lo wt) H locs → lv_has ls 5 [(0, .ref a0), (1, .int x1), (2, .int x2), (3, .int x3), (4, .int x4)] → fX2_judgeScreen_15 n sc x1 x2 x3 x4 = some (rv) → W p l e rm_X2_judgeScreen s m args below meth c H locs 0 0 (MQ below (Qx G (some (.int rv)) (wSt cI a0 a1 a2 a3 a4 a5 a6 a7 a8 nu va qu sc lo wt) A) args s 0 0 A) (F0 m 15 ls []) := by
    intro n
    induction n with
    | zero =>
      intro x1 x2 x3 x4 H locs ls h hl hf
      exact (nn_some _ hf).elim
    | succ n ih =>
      intro x1 x2 x3 x4 H locs ls h hl hf
      have hf : fX2_judgeScreen_15_b (fX2_judgeScreen_15 n) sc x1 x2 x3 x4 = some (rv) := hf
      unfold fX2_judgeScreen_15_b at hf
      refine lv_iload hx hb dX2_judgeScreen_15 (lv_at hl 4 rfl) ?_
      refine lv_iload_n hx hb dX2_judgeScreen_17 rfl (lv_at hl 1 rfl) ?_
      refine lv_icmp_ge (tgt := 77) hx hb dX2_judgeScreen_18 (by decide) (fun hc => ?_) (fun hc => ?_)
      · replace hf := it_t hf hc
        refine lv_iload_n hx hb dX2_judgeScreen_77 rfl (lv_at hl 3 rfl) ?_
        cases hf
        exact r_iret C h hr hlocks dX2_judgeScreen_78
      · replace hf := it_f hf hc
        refine lv_aload_n hx hb dX2_judgeScreen_21 rfl (lv_at hl 0 rfl) ?_
        refine r_get C h 0 3 (ci := 2) (N := 6) (Cn := RX2) (T := TX2) rfl rfl (by decide) in_X2_judgeScreen_X2 lk_X2_judgeScreen_27 rfl dX2_judgeScreen_22 ?_
        refine lv_iload hx hb dX2_judgeScreen_25 (lv_at hl 4 rfl) ?_
        refine lv_iconst (v := 1) hx hb dX2_judgeScreen_27 (by decide) ?_
        obtain ⟨r_1, hq_2, hf⟩ := ob1_use hf
        refine r_callV C h (cw_X2_judgeScreen_X3_read_93 C.hts) (rest := []) (ci := 3) (N := 2) (Cn := RX3) (T := TX3) (c_X3_read l G cI cC cZ X a5 a6 3 96 sc x4 (1 : Int32) r_1 hq_2) [5, 6] rfl rfl rfl rfl 5 rfl rfl hl.1 rfl (Nat.le_of_ble_eq_true rfl) ⟨Nat.le_of_ble_eq_true rfl, Nat.le_of_ble_eq_true rfl⟩ (wSt cI a0 a1 a2 a3 a4 a5 a6 a7 a8 nu va qu sc lo wt) rfl rfl dX2_judgeScreen_28 (fun H locs h => ?_)
        refine lv_bipush (v := (-6)) hx hb dX2_judgeScreen_31 (by decide) ?_
        refine lv_icmp_ne (tgt := 38) hx hb dX2_judgeScreen_33 (by decide) (fun hc => ?_) (fun hc => ?_)
        · replace hf := it_f hf hc
          refine lv_aload_n hx hb dX2_judgeScreen_38 rfl (lv_at hl 0 rfl) ?_
          refine r_get C h 0 3 (ci := 2) (N := 6) (Cn := RX2) (T := TX2) rfl rfl (by decide) in_X2_judgeScreen_X2 lk_X2_judgeScreen_27 rfl dX2_judgeScreen_39 ?_
          refine lv_iload hx hb dX2_judgeScreen_42 (lv_at hl 4 rfl) ?_
          refine lv_iconst (v := 1) hx hb dX2_judgeScreen_44 (by decide) ?_
          obtain ⟨r_3, hq_4, hf⟩ := ob1_use hf
          refine r_callV C h (cw_X2_judgeScreen_X3_read_93 C.hts) (rest := []) (ci := 3) (N := 2) (Cn := RX3) (T := TX3) (c_X3_read l G cI cC cZ X a5 a6 3 96 sc x4 (1 : Int32) r_3 hq_4) [5, 6] rfl rfl rfl rfl 5 rfl rfl hl.1 rfl (Nat.le_of_ble_eq_true rfl) ⟨Nat.le_of_ble_eq_true rfl, Nat.le_of_ble_eq_true rfl⟩ (wSt cI a0 a1 a2 a3 a4 a5 a6 a7 a8 nu va qu sc lo wt) rfl rfl dX2_judgeScreen_45 (fun H locs h => ?_)
          refine lv_iload_n hx hb dX2_judgeScreen_48 rfl (lv_at hl 2 rfl) ?_
          refine lv_icmp_ne (tgt := 69) hx hb dX2_judgeScreen_49 (by decide) (fun hc => ?_) (fun hc => ?_)
          · replace hf := it_f hf hc
            refine lv_iconst (v := 1) hx hb dX2_judgeScreen_69 (by decide) ?_
            refine lv_istore_n (lv' := [(3, .int 1), (0, .ref a0), (1, .int x1), (2, .int x2), (4, .int x4)]) hx hb dX2_judgeScreen_70 rfl hl (by decide) rfl (fun ls hl => ?_)
            obtain ⟨x4_5, ex4_5⟩ : ∃ y : Int32, y = x4 + 1 := ⟨_, rfl⟩
            replace hf := nm_use hf ex4_5
            refine lv_iinc (v := x4_5) (lv' := [(4, .int x4_5), (3, .int 1), (0, .ref a0), (1, .int x1), (2, .int x2)]) hx hb dX2_judgeScreen_71 hl (k := 4) rfl (by rw [ex4_5]; rfl) (by decide) rfl (fun ls hl => ?_)
            refine lv_goto (tgt := 15) hx hb dX2_judgeScreen_74 (by decide) ?_
            exact ih x1 x2 1 x4_5 _ _ _ h (lv_sub hl [2, 3, 4, 1, 0] rfl) hf
          · replace hf := it_t hf hc
            refine lv_aload_n hx hb dX2_judgeScreen_52 rfl (lv_at hl 0 rfl) ?_
            refine r_get C h 0 3 (ci := 2) (N := 6) (Cn := RX2) (T := TX2) rfl rfl (by decide) in_X2_judgeScreen_X2 lk_X2_judgeScreen_27 rfl dX2_judgeScreen_53 ?_
            refine lv_iload hx hb dX2_judgeScreen_56 (lv_at hl 4 rfl) ?_
            refine lv_iconst (v := 2) hx hb dX2_judgeScreen_58 (by decide) ?_
            obtain ⟨r_6, hq_7, hf⟩ := ob1_use hf
            refine r_callV C h (cw_X2_judgeScreen_X3_read_93 C.hts) (rest := []) (ci := 3) (N := 2) (Cn := RX3) (T := TX3) (c_X3_read l G cI cC cZ X a5 a6 3 96 sc x4 (2 : Int32) r_6 hq_7) [5, 6] rfl rfl rfl rfl 5 rfl rfl hl.1 rfl (Nat.le_of_ble_eq_true rfl) ⟨Nat.le_of_ble_eq_true rfl, Nat.le_of_ble_eq_true rfl⟩ (wSt cI a0 a1 a2 a3 a4 a5 a6 a7 a8 nu va qu sc lo wt) rfl rfl dX2_judgeScreen_59 (fun H locs h => ?_)
            refine lv_iload hx hb dX2_judgeScreen_62 (lv_at hl 4 rfl) ?_
            refine lv_iconst (v := 2) hx hb dX2_judgeScreen_64 (by decide) ?_
            refine lv_idiv hx hb dX2_judgeScreen_65 (by decide) ?_
            refine lv_icmp_eq (tgt := 71) hx hb dX2_judgeScreen_66 (by decide) (fun hc => ?_) (fun hc => ?_)
            · replace hf := it_t hf hc
              obtain ⟨x4_8, ex4_8⟩ : ∃ y : Int32, y = x4 + 1 := ⟨_, rfl⟩
              replace hf := nm_use hf ex4_8
              refine lv_iinc (v := x4_8) (lv' := [(4, .int x4_8), (0, .ref a0), (1, .int x1), (2, .int x2), (3, .int x3)]) hx hb dX2_judgeScreen_71 hl (k := 4) rfl (by rw [ex4_8]; rfl) (by decide) rfl (fun ls hl => ?_)
              refine lv_goto (tgt := 15) hx hb dX2_judgeScreen_74 (by decide) ?_
              exact ih x1 x2 x3 x4_8 _ _ _ h (lv_sub hl [1, 2, 3, 4, 0] rfl) hf
            · replace hf := it_f hf hc
              refine lv_iconst (v := 1) hx hb dX2_judgeScreen_69 (by decide) ?_
              refine lv_istore_n (lv' := [(3, .int 1), (0, .ref a0), (1, .int x1), (2, .int x2), (4, .int x4)]) hx hb dX2_judgeScreen_70 rfl hl (by decide) rfl (fun ls hl => ?_)
              obtain ⟨x4_9, ex4_9⟩ : ∃ y : Int32, y = x4 + 1 := ⟨_, rfl⟩
              replace hf := nm_use hf ex4_9
              refine lv_iinc (v := x4_9) (lv' := [(4, .int x4_9), (3, .int 1), (0, .ref a0), (1, .int x1), (2, .int x2)]) hx hb dX2_judgeScreen_71 hl (k := 4) rfl (by rw [ex4_9]; rfl) (by decide) rfl (fun ls hl => ?_)
              refine lv_goto (tgt := 15) hx hb dX2_judgeScreen_74 (by decide) ?_
              exact ih x1 x2 1 x4_9 _ _ _ h (lv_sub hl [2, 3, 4, 1, 0] rfl) hf
        · replace hf := it_t hf hc
          refine lv_iconst (v := 2) hx hb dX2_judgeScreen_36 (by decide) ?_
          cases hf
          exact r_iret C h hr hlocks dX2_judgeScreen_37
  unfold fX2_judgeScreen at hf
  refine lv_aload_n hx hb dX2_judgeScreen_0 rfl (lv_at hl 0 rfl) ?_
  refine r_get C h 0 3 (ci := 2) (N := 6) (Cn := RX2) (T := TX2) rfl rfl (by decide) in_X2_judgeScreen_X2 lk_X2_judgeScreen_27 rfl dX2_judgeScreen_1 ?_
  refine lv_iconst (v := 0) hx hb dX2_judgeScreen_4 (by decide) ?_
  refine lv_iconst (v := 1) hx hb dX2_judgeScreen_5 (by decide) ?_
  obtain ⟨r_1, hq_2, hf⟩ := ob1_use hf
  refine r_callV C h (cw_X2_judgeScreen_X3_read_93 C.hts) (rest := []) (ci := 3) (N := 2) (Cn := RX3) (T := TX3) (c_X3_read l G cI cC cZ X a5 a6 3 96 sc (0 : Int32) (1 : Int32) r_1 hq_2) [5, 6] rfl rfl rfl rfl 5 rfl rfl hl.1 rfl (Nat.le_of_ble_eq_true rfl) ⟨Nat.le_of_ble_eq_true rfl, Nat.le_of_ble_eq_true rfl⟩ (wSt cI a0 a1 a2 a3 a4 a5 a6 a7 a8 nu va qu sc lo wt) rfl rfl dX2_judgeScreen_6 (fun H locs h => ?_)
  refine lv_istore_n (lv' := [(2, .int r_1), (0, .ref a0), (1, .int x1)]) hx hb dX2_judgeScreen_9 rfl hl (by decide) rfl (fun ls hl => ?_)
  refine lv_iconst (v := 0) hx hb dX2_judgeScreen_10 (by decide) ?_
  refine lv_istore_n (lv' := [(3, .int 0), (2, .int r_1), (0, .ref a0), (1, .int x1)]) hx hb dX2_judgeScreen_11 rfl hl (by decide) rfl (fun ls hl => ?_)
  refine lv_iconst (v := 0) hx hb dX2_judgeScreen_12 (by decide) ?_
  refine lv_istore (lv' := [(4, .int 0), (3, .int 0), (2, .int r_1), (0, .ref a0), (1, .int x1)]) hx hb dX2_judgeScreen_13 hl (by decide) rfl (fun ls hl => ?_)
  exact cut_15 KF x1 r_1 0 0 _ _ _ h (lv_sub hl [3, 4, 2, 1, 0] rfl) hf
def rm_X2_rowGoesOut : Room := { frames := 4, cells := 0, slots := 0, locals := 86 }
set_option maxRecDepth 20000 in
theorem lk_X2_rowGoesOut_9 : Cond.fieldLink RX2 9 "LineDoubler$State" "numbers" "[I" ∈ wsX2_rowGoesOut := List.mem_of_getElem? (i := 1) (by decide +kernel)
set_option maxRecDepth 20000 in
theorem in_X2_rowGoesOut_X2 : ∀ x ∈ wsX20, x ∈ wsX2_rowGoesOut := mem_r _ [56, 57, 58, 59, 60, 61] (by decide +kernel)
set_option maxRecDepth 20000 in
theorem cw_X2_rowGoesOut_X2_rowsOfScreen_100 {s : State} {args : Array Value} (hts : ∀ w ∈ wsX2_rowGoesOut, w.before args s = true) : CallW rm_X2_rowGoesOut s args RX2 RX2 100 yX2_rowsOfScreen cX2_rowsOfScreen 1 (some .int) wsX2_rowsOfScreen rm_X2_rowsOfScreen 0 0 0 :=
  cwV 0 hts gX2_rowGoesOut_X2_rowsOfScreen rfl rfl rfl (by decide +kernel) ⟨Nat.le_of_ble_eq_true rfl, Nat.le_of_ble_eq_true rfl⟩
set_option maxRecDepth 20000 in
theorem cw_X2_rowGoesOut_X2_setting_54 {s : State} {args : Array Value} (hts : ∀ w ∈ wsX2_rowGoesOut, w.before args s = true) : CallW rm_X2_rowGoesOut s args RX2 RX2 54 yX2_setting cX2_setting 2 (some .int) wsX2_setting rm_X2_setting 0 0 1 :=
  cwV 1 hts gX2_rowGoesOut_X2_setting rfl rfl rfl (by decide +kernel) ⟨Nat.le_of_ble_eq_true rfl, Nat.le_of_ble_eq_true rfl⟩
set_option maxRecDepth 20000 in
theorem cw_X2_rowGoesOut_X2_skipToPicture_103 {s : State} {args : Array Value} (hts : ∀ w ∈ wsX2_rowGoesOut, w.before args s = true) : CallW rm_X2_rowGoesOut s args RX2 RX2 103 yX2_skipToPicture cX2_skipToPicture 3 none wsX2_skipToPicture rm_X2_skipToPicture 0 0 0 :=
  cwV 0 hts gX2_rowGoesOut_X2_skipToPicture rfl rfl rfl (by decide +kernel) ⟨Nat.le_of_ble_eq_true rfl, Nat.le_of_ble_eq_true rfl⟩
set_option maxRecDepth 20000 in
theorem cw_X2_rowGoesOut_X2_judgeScreen_112 {s : State} {args : Array Value} (hts : ∀ w ∈ wsX2_rowGoesOut, w.before args s = true) : CallW rm_X2_rowGoesOut s args RX2 RX2 112 yX2_judgeScreen cX2_judgeScreen 5 (some .int) wsX2_judgeScreen rm_X2_judgeScreen 0 0 1 :=
  cwV 1 hts gX2_rowGoesOut_X2_judgeScreen rfl rfl rfl (by decide +kernel) ⟨Nat.le_of_ble_eq_true rfl, Nat.le_of_ble_eq_true rfl⟩
set_option maxRecDepth 20000 in
theorem cw_X2_rowGoesOut_X2_showColour_109 {s : State} {args : Array Value} (hts : ∀ w ∈ wsX2_rowGoesOut, w.before args s = true) : CallW rm_X2_rowGoesOut s args RX2 RX2 109 yX2_showColour cX2_showColour 2 none wsX2_showColour rm_X2_showColour 0 0 1 :=
  cwV 1 hts gX2_rowGoesOut_X2_showColour rfl rfl rfl (by decide +kernel) ⟨Nat.le_of_ble_eq_true rfl, Nat.le_of_ble_eq_true rfl⟩
set_option maxRecDepth 20000 in
theorem cw_X2_rowGoesOut_X2_showFirstWaiting_106 {s : State} {args : Array Value} (hts : ∀ w ∈ wsX2_rowGoesOut, w.before args s = true) : CallW rm_X2_rowGoesOut s args RX2 RX2 106 yX2_showFirstWaiting cX2_showFirstWaiting 2 none wsX2_showFirstWaiting rm_X2_showFirstWaiting 0 0 1 :=
  cwV 1 hts gX2_rowGoesOut_X2_showFirstWaiting rfl rfl rfl (by decide +kernel) ⟨Nat.le_of_ble_eq_true rfl, Nat.le_of_ble_eq_true rfl⟩
set_option maxHeartbeats 4000000 in
set_option maxRecDepth 100000 in
theorem c_X2_rowGoesOut (l : Launch) (G : va_G) (cI cC cZ : ClassId) (X : List (ClassId × FieldType)) (a0 a1 a2 a3 a4 a5 a6 a7 a8 : Nat) (nu : Nat → Int32) (va : Nat → Int32) (qu : Nat → Int32) (sc : Nat → Int32) (lo : Nat → Int32) (wt : Int32) (nu' : Nat → Int32) (qu' : Nat → Int32) (sc' : Nat → Int32) (lo' : Nat → Int32) (hf : fX2_rowGoesOut nu qu sc lo = some (nu', qu', sc', lo')) : CT l yX2_rowGoesOut wsX2_rowGoesOut rm_X2_rowGoesOut G (TY cI cC cZ X) [.ref a0] (wSt cI a0 a1 a2 a3 a4 a5 a6 a7 a8 nu va qu sc lo wt) none (wSt cI a0 a1 a2 a3 a4 a5 a6 a7 a8 nu' va qu' sc' lo' wt) := by
  refine CT.of (cc := cX2_rowGoesOut) (maxL := 4) (ret := none) RX2 rfl (by decide) rfl (Nat.le_of_ble_eq_true rfl) ?_
  intro p e s m args below meth c A ls C hr hlocks hnm h hl
  have hx := C.hx
  have hb := C.hb
  have hl : lv_has ls 4 [(0, .ref a0)] := hl
  have cut_118 : ∀ (nu : Nat → Int32) (qu : Nat → Int32) (sc : Nat → Int32) (lo : Nat → Int32) (H : Heap) (locs : List Loc) (ls : Array Slot), Hx s G A (wSt cI a0 a1 a2 a3 a4 a5 a6 a7 a8 nu va qu sc lo wt) H locs → lv_has ls 4 [(0, .ref a0)] → fX2_rowGoesOut_118 nu qu sc lo = some (nu', qu', sc', lo') → W p l e rm_X2_rowGoesOut s m args below meth c H locs 0 0 (MQ below (Qx G none (wSt cI a0 a1 a2 a3 a4 a5 a6 a7 a8 nu' va qu' sc' lo' wt) A) args s 0 0 A) (F0 m 118 ls []) := by
    intro nu qu sc lo H locs ls h hl hf
    unfold fX2_rowGoesOut_118 at hf
    refine lv_aload_n hx hb dX2_rowGoesOut_118 rfl (lv_at hl 0 rfl) ?_
    refine r_get C h 0 0 (ci := 2) (N := 6) (Cn := RX2) (T := TX2) rfl rfl (by decide) in_X2_rowGoesOut_X2 lk_X2_rowGoesOut_9 rfl dX2_rowGoesOut_119 ?_
    refine lv_bipush (v := 11) hx hb dX2_rowGoesOut_122 (by decide) ?_
    refine lv_dup2_11 hx hb dX2_rowGoesOut_124 rfl rfl ?_
    refine r_ald C h 1 rfl rfl k_11_24 dX2_rowGoesOut_125 ?_
    refine lv_aload_n hx hb dX2_rowGoesOut_126 rfl (lv_at hl 0 rfl) ?_
    refine lv_iconst (v := 1) hx hb dX2_rowGoesOut_127 (by decide) ?_
    obtain ⟨r_1, hq_2, hf⟩ := ob1_use hf
    refine r_callV C h (cw_X2_rowGoesOut_X2_setting_54 C.hts) (rest := [.int (nu 11), .int 11, .ref a1]) (ci := 2) (N := 6) (Cn := RX2) (T := TX2) (c_X2_setting l G cI cC cZ X a0 a1 a2 a3 a4 a5 a6 a7 a8 nu va qu sc lo wt (1 : Int32) r_1 hq_2) [0, 1, 2, 3, 4, 5, 6, 7, 8] rfl rfl rfl rfl 0 rfl rfl hl.1 rfl (Nat.le_of_ble_eq_true rfl) ⟨Nat.le_of_ble_eq_true rfl, Nat.le_of_ble_eq_true rfl⟩ (wSt cI a0 a1 a2 a3 a4 a5 a6 a7 a8 nu va qu sc lo wt) rfl rfl dX2_rowGoesOut_128 (fun H locs h => ?_)
    refine lv_iadd hx hb dX2_rowGoesOut_131 ?_
    refine r_ast C h 1 rfl rfl k_11_24 (fun z__ => (wSt cI a0 a1 a2 a3 a4 a5 a6 a7 a8 z__ va qu sc lo wt)) (fun _ => rfl) dX2_rowGoesOut_132 (fun nu_3 enu_3 H locs h => ?_)
    replace hf := nm_use hf enu_3
    cases hf
    exact r_vret C h hr hlocks dX2_rowGoesOut_133
  have cut_52 : ∀ (nu : Nat → Int32) (qu : Nat → Int32) (sc : Nat → Int32) (lo : Nat → Int32) (x1 : Int32) (x2 : Int32) (H : Heap) (locs : List Loc) (ls : Array Slot), Hx s G A (wSt cI a0 a1 a2 a3 a4 a5 a6 a7 a8 nu va qu sc lo wt) H locs → lv_has ls 4 [(0, .ref a0), (1, .int x1), (2, .int x2)] → fX2_rowGoesOut_52 nu qu sc lo x1 x2 = some (nu', qu', sc', lo') → W p l e rm_X2_rowGoesOut s m args below meth c H locs 0 0 (MQ below (Qx G none (wSt cI a0 a1 a2 a3 a4 a5 a6 a7 a8 nu' va qu' sc' lo' wt) A) args s 0 0 A) (F0 m 52 ls []) := by
    intro nu qu sc lo x1 x2 H locs ls h hl hf
    unfold fX2_rowGoesOut_52 at hf
    refine lv_aload_n hx hb dX2_rowGoesOut_52 rfl (lv_at hl 0 rfl) ?_
    refine r_get C h 0 0 (ci := 2) (N := 6) (Cn := RX2) (T := TX2) rfl rfl (by decide) in_X2_rowGoesOut_X2 lk_X2_rowGoesOut_9 rfl dX2_rowGoesOut_53 ?_
    refine lv_iconst (v := 5) hx hb dX2_rowGoesOut_56 (by decide) ?_
    refine lv_dup2_11 hx hb dX2_rowGoesOut_57 rfl rfl ?_
    refine r_ald C h 1 rfl rfl k_5_24 dX2_rowGoesOut_58 ?_
    refine lv_iconst (v := 1) hx hb dX2_rowGoesOut_59 (by decide) ?_
    refine lv_iadd hx hb dX2_rowGoesOut_60 ?_
    refine r_ast C h 1 rfl rfl k_5_24 (fun z__ => (wSt cI a0 a1 a2 a3 a4 a5 a6 a7 a8 z__ va qu sc lo wt)) (fun _ => rfl) dX2_rowGoesOut_61 (fun nu_1 enu_1 H locs h => ?_)
    replace hf := nm_use hf enu_1
    refine lv_aload_n hx hb dX2_rowGoesOut_62 rfl (lv_at hl 0 rfl) ?_
    refine r_get C h 0 0 (ci := 2) (N := 6) (Cn := RX2) (T := TX2) rfl rfl (by decide) in_X2_rowGoesOut_X2 lk_X2_rowGoesOut_9 rfl dX2_rowGoesOut_63 ?_
    refine lv_bipush (v := 7) hx hb dX2_rowGoesOut_66 (by decide) ?_
    refine lv_iload_n hx hb dX2_rowGoesOut_68 rfl (lv_at hl 2 rfl) ?_
    refine lv_iconst (v := 1) hx hb dX2_rowGoesOut_69 (by decide) ?_
    refine lv_iadd hx hb dX2_rowGoesOut_70 ?_
    refine r_ast C h 1 rfl rfl k_7_24 (fun z__ => (wSt cI a0 a1 a2 a3 a4 a5 a6 a7 a8 z__ va qu sc lo wt)) (fun _ => rfl) dX2_rowGoesOut_71 (fun nu_2 enu_2 H locs h => ?_)
    replace hf := nm_use hf enu_2
    refine lv_aload_n hx hb dX2_rowGoesOut_72 rfl (lv_at hl 0 rfl) ?_
    refine r_get C h 0 0 (ci := 2) (N := 6) (Cn := RX2) (T := TX2) rfl rfl (by decide) in_X2_rowGoesOut_X2 lk_X2_rowGoesOut_9 rfl dX2_rowGoesOut_73 ?_
    refine lv_bipush (v := 7) hx hb dX2_rowGoesOut_76 (by decide) ?_
    refine r_ald C h 1 rfl rfl k_7_24 dX2_rowGoesOut_78 ?_
    refine lv_iload_n hx hb dX2_rowGoesOut_79 rfl (lv_at hl 1 rfl) ?_
    refine lv_icmp_lt (tgt := 118) hx hb dX2_rowGoesOut_80 (by decide) (fun hc => ?_) (fun hc => ?_)
    · replace hf := it_t hf hc
      exact cut_118 nu_2 qu sc lo _ _ _ h (lv_sub hl [0] rfl) hf
    · replace hf := it_f hf hc
      refine lv_aload_n hx hb dX2_rowGoesOut_83 rfl (lv_at hl 0 rfl) ?_
      refine r_get C h 0 0 (ci := 2) (N := 6) (Cn := RX2) (T := TX2) rfl rfl (by decide) in_X2_rowGoesOut_X2 lk_X2_rowGoesOut_9 rfl dX2_rowGoesOut_84 ?_
      refine lv_bipush (v := 7) hx hb dX2_rowGoesOut_87 (by decide) ?_
      refine lv_iconst (v := 0) hx hb dX2_rowGoesOut_89 (by decide) ?_
      refine r_ast C h 1 rfl rfl k_7_24 (fun z__ => (wSt cI a0 a1 a2 a3 a4 a5 a6 a7 a8 z__ va qu sc lo wt)) (fun _ => rfl) dX2_rowGoesOut_90 (fun nu_3 enu_3 H locs h => ?_)
      replace hf := nm_use hf enu_3
      refine lv_aload_n hx hb dX2_rowGoesOut_91 rfl (lv_at hl 0 rfl) ?_
      refine lv_iload_n hx hb dX2_rowGoesOut_92 rfl (lv_at hl 1 rfl) ?_
      obtain ⟨r_4, hq_5, hf⟩ := ob1_use hf
      refine r_callV C h (cw_X2_rowGoesOut_X2_judgeScreen_112 C.hts) (rest := []) (ci := 2) (N := 6) (Cn := RX2) (T := TX2) (c_X2_judgeScreen l G cI cC cZ X a0 a1 a2 a3 a4 a5 a6 a7 a8 nu_3 va qu sc lo wt x1 r_4 hq_5) [0, 1, 2, 3, 4, 5, 6, 7, 8] rfl rfl rfl rfl 0 rfl rfl hl.1 rfl (Nat.le_of_ble_eq_true rfl) ⟨Nat.le_of_ble_eq_true rfl, Nat.le_of_ble_eq_true rfl⟩ (wSt cI a0 a1 a2 a3 a4 a5 a6 a7 a8 nu_3 va qu sc lo wt) rfl rfl dX2_rowGoesOut_93 (fun H locs h => ?_)
      refine lv_istore_n (lv' := [(3, .int r_4), (0, .ref a0), (1, .int x1), (2, .int x2)]) hx hb dX2_rowGoesOut_96 rfl hl (by decide) rfl (fun ls hl => ?_)
      refine lv_aload_n hx hb dX2_rowGoesOut_97 rfl (lv_at hl 1 rfl) ?_
      refine r_get C h 0 0 (ci := 2) (N := 6) (Cn := RX2) (T := TX2) rfl rfl (by decide) in_X2_rowGoesOut_X2 lk_X2_rowGoesOut_9 rfl dX2_rowGoesOut_98 ?_
      refine lv_bipush (v := 12) hx hb dX2_rowGoesOut_101 (by decide) ?_
      refine lv_iload_n hx hb dX2_rowGoesOut_103 rfl (lv_at hl 0 rfl) ?_
      refine lv_iadd hx hb dX2_rowGoesOut_104 ?_
      refine lv_topi (fun y_6 ey_6 => ?_)
      replace hf := nm_use hf ey_6
      refine lv_dup2_11 hx hb dX2_rowGoesOut_105 rfl rfl ?_
      obtain ⟨j_7, hj_7, hf⟩ := chk_use hf
      refine r_ald C h 1 rfl rfl hj_7 dX2_rowGoesOut_106 ?_
      refine lv_iconst (v := 1) hx hb dX2_rowGoesOut_107 (by decide) ?_
      refine lv_iadd hx hb dX2_rowGoesOut_108 ?_
      obtain ⟨j_8, hj_8, hf⟩ := chk_use hf
      refine r_ast C h 1 rfl rfl hj_8 (fun z__ => (wSt cI a0 a1 a2 a3 a4 a5 a6 a7 a8 z__ va qu sc lo wt)) (fun _ => rfl) dX2_rowGoesOut_109 (fun nu_9 enu_9 H locs h => ?_)
      replace hf := nm_use hf enu_9
      refine lv_aload_n hx hb dX2_rowGoesOut_110 rfl (lv_at hl 1 rfl) ?_
      refine r_get C h 0 0 (ci := 2) (N := 6) (Cn := RX2) (T := TX2) rfl rfl (by decide) in_X2_rowGoesOut_X2 lk_X2_rowGoesOut_9 rfl dX2_rowGoesOut_111 ?_
      refine lv_bipush (v := 15) hx hb dX2_rowGoesOut_114 (by decide) ?_
      refine lv_iload_n hx hb dX2_rowGoesOut_116 rfl (lv_at hl 0 rfl) ?_
      refine r_ast C h 1 rfl rfl k_15_24 (fun z__ => (wSt cI a0 a1 a2 a3 a4 a5 a6 a7 a8 z__ va qu sc lo wt)) (fun _ => rfl) dX2_rowGoesOut_117 (fun nu_10 enu_10 H locs h => ?_)
      replace hf := nm_use hf enu_10
      exact cut_118 nu_10 qu sc lo _ _ _ h (lv_sub hl [1] rfl) hf
  have cut_30 : ∀ (nu : Nat → Int32) (qu : Nat → Int32) (sc : Nat → Int32) (lo : Nat → Int32) (x1 : Int32) (x2 : Int32) (H : Heap) (locs : List Loc) (ls : Array Slot), Hx s G A (wSt cI a0 a1 a2 a3 a4 a5 a6 a7 a8 nu va qu sc lo wt) H locs → lv_has ls 4 [(0, .ref a0), (1, .int x1), (2, .int x2)] → fX2_rowGoesOut_30 nu qu sc lo x1 x2 = some (nu', qu', sc', lo') → W p l e rm_X2_rowGoesOut s m args below meth c H locs 0 0 (MQ below (Qx G none (wSt cI a0 a1 a2 a3 a4 a5 a6 a7 a8 nu' va qu' sc' lo' wt) A) args s 0 0 A) (F0 m 30 ls []) := by
    intro nu qu sc lo x1 x2 H locs ls h hl hf
    unfold fX2_rowGoesOut_30 at hf
    refine lv_aload_n hx hb dX2_rowGoesOut_30 rfl (lv_at hl 0 rfl) ?_
    refine r_get C h 0 0 (ci := 2) (N := 6) (Cn := RX2) (T := TX2) rfl rfl (by decide) in_X2_rowGoesOut_X2 lk_X2_rowGoesOut_9 rfl dX2_rowGoesOut_31 ?_
    refine lv_iconst (v := 2) hx hb dX2_rowGoesOut_34 (by decide) ?_
    refine r_ald C h 1 rfl rfl k_2_24 dX2_rowGoesOut_35 ?_
    refine lv_if_le (tgt := 47) hx hb dX2_rowGoesOut_36 (by decide) (fun hc => ?_) (fun hc => ?_)
    · replace hf := it_t hf hc
      refine lv_aload_n hx hb dX2_rowGoesOut_47 rfl (lv_at hl 0 rfl) ?_
      refine lv_iload_n hx hb dX2_rowGoesOut_48 rfl (lv_at hl 2 rfl) ?_
      obtain ⟨nu_1, sc_2, hq_3, hf⟩ := ob2_use hf
      refine r_callV C h (cw_X2_rowGoesOut_X2_showColour_109 C.hts) (rest := []) (ci := 2) (N := 6) (Cn := RX2) (T := TX2) (c_X2_showColour l G cI cC cZ X a0 a1 a2 a3 a4 a5 a6 a7 a8 nu va qu sc lo wt x2 nu_1 sc_2 hq_3) [0, 1, 2, 3, 4, 5, 6, 7, 8] rfl rfl rfl rfl 0 rfl rfl hl.1 rfl (Nat.le_of_ble_eq_true rfl) ⟨Nat.le_of_ble_eq_true rfl, Nat.le_of_ble_eq_true rfl⟩ (wSt cI a0 a1 a2 a3 a4 a5 a6 a7 a8 nu_1 va qu sc_2 lo wt) rfl rfl dX2_rowGoesOut_49 (fun H locs h => ?_)
      exact cut_52 nu_1 qu sc_2 lo x1 x2 _ _ _ h (lv_sub hl [0, 1, 2] rfl) hf
    · replace hf := it_f hf hc
      refine lv_aload_n hx hb dX2_rowGoesOut_39 rfl (lv_at hl 0 rfl) ?_
      refine lv_iload_n hx hb dX2_rowGoesOut_40 rfl (lv_at hl 2 rfl) ?_
      obtain ⟨nu_4, qu_5, sc_6, hq_7, hf⟩ := ob3_use hf
      refine r_callV C h (cw_X2_rowGoesOut_X2_showFirstWaiting_106 C.hts) (rest := []) (ci := 2) (N := 6) (Cn := RX2) (T := TX2) (c_X2_showFirstWaiting l G cI cC cZ X a0 a1 a2 a3 a4 a5 a6 a7 a8 nu va qu sc lo wt x2 nu_4 qu_5 sc_6 hq_7) [0, 1, 2, 3, 4, 5, 6, 7, 8] rfl rfl rfl rfl 0 rfl rfl hl.1 rfl (Nat.le_of_ble_eq_true rfl) ⟨Nat.le_of_ble_eq_true rfl, Nat.le_of_ble_eq_true rfl⟩ (wSt cI a0 a1 a2 a3 a4 a5 a6 a7 a8 nu_4 va qu_5 sc_6 lo wt) rfl rfl dX2_rowGoesOut_41 (fun H locs h => ?_)
      refine lv_goto (tgt := 52) hx hb dX2_rowGoesOut_44 (by decide) ?_
      exact cut_52 nu_4 qu_5 sc_6 lo x1 x2 _ _ _ h (lv_sub hl [0, 1, 2] rfl) hf
  unfold fX2_rowGoesOut at hf
  refine lv_aload_n hx hb dX2_rowGoesOut_0 rfl (lv_at hl 0 rfl) ?_
  obtain ⟨r_1, hq_2, hf⟩ := ob1_use hf
  refine r_callV C h (cw_X2_rowGoesOut_X2_rowsOfScreen_100 C.hts) (rest := []) (ci := 2) (N := 6) (Cn := RX2) (T := TX2) (c_X2_rowsOfScreen l G cI cC cZ X a0 a1 a2 a3 a4 a5 a6 a7 a8 nu va qu sc lo wt r_1 hq_2) [0, 1, 2, 3, 4, 5, 6, 7, 8] rfl rfl rfl rfl 0 rfl rfl hl.1 rfl (Nat.le_of_ble_eq_true rfl) ⟨Nat.le_of_ble_eq_true rfl, Nat.le_of_ble_eq_true rfl⟩ (wSt cI a0 a1 a2 a3 a4 a5 a6 a7 a8 nu va qu sc lo wt) rfl rfl dX2_rowGoesOut_1 (fun H locs h => ?_)
  refine lv_istore_n (lv' := [(1, .int r_1), (0, .ref a0)]) hx hb dX2_rowGoesOut_4 rfl hl (by decide) rfl (fun ls hl => ?_)
  refine lv_aload_n hx hb dX2_rowGoesOut_5 rfl (lv_at hl 1 rfl) ?_
  refine r_get C h 0 0 (ci := 2) (N := 6) (Cn := RX2) (T := TX2) rfl rfl (by decide) in_X2_rowGoesOut_X2 lk_X2_rowGoesOut_9 rfl dX2_rowGoesOut_6 ?_
  refine lv_bipush (v := 7) hx hb dX2_rowGoesOut_9 (by decide) ?_
  refine r_ald C h 1 rfl rfl k_7_24 dX2_rowGoesOut_11 ?_
  refine lv_topi (fun x2_3 ex2_3 => ?_)
  replace hf := nm_use hf ex2_3
  refine lv_istore_n (lv' := [(2, .int x2_3), (1, .int r_1), (0, .ref a0)]) hx hb dX2_rowGoesOut_12 rfl hl (by decide) rfl (fun ls hl => ?_)
  refine lv_iload_n hx hb dX2_rowGoesOut_13 rfl (lv_at hl 0 rfl) ?_
  refine lv_if_ne (tgt := 30) hx hb dX2_rowGoesOut_14 (by decide) (fun hc => ?_) (fun hc => ?_)
  · replace hf := it_f hf hc
    exact cut_30 nu qu sc lo r_1 x2_3 _ _ _ h (lv_sub hl [2, 1, 0] rfl) hf
  · replace hf := it_t hf hc
    refine lv_aload_n hx hb dX2_rowGoesOut_17 rfl (lv_at hl 2 rfl) ?_
    refine lv_iconst (v := 5) hx hb dX2_rowGoesOut_18 (by decide) ?_
    obtain ⟨r_4, hq_5, hf⟩ := ob1_use hf
    refine r_callV C h (cw_X2_rowGoesOut_X2_setting_54 C.hts) (rest := []) (ci := 2) (N := 6) (Cn := RX2) (T := TX2) (c_X2_setting l G cI cC cZ X a0 a1 a2 a3 a4 a5 a6 a7 a8 nu va qu sc lo wt (5 : Int32) r_4 hq_5) [0, 1, 2, 3, 4, 5, 6, 7, 8] rfl rfl rfl rfl 0 rfl rfl hl.1 rfl (Nat.le_of_ble_eq_true rfl) ⟨Nat.le_of_ble_eq_true rfl, Nat.le_of_ble_eq_true rfl⟩ (wSt cI a0 a1 a2 a3 a4 a5 a6 a7 a8 nu va qu sc lo wt) rfl rfl dX2_rowGoesOut_19 (fun H locs h => ?_)
    refine lv_iconst (v := 1) hx hb dX2_rowGoesOut_22 (by decide) ?_
    refine lv_icmp_ne (tgt := 30) hx hb dX2_rowGoesOut_23 (by decide) (fun hc => ?_) (fun hc => ?_)
    · replace hf := it_f hf hc
      exact cut_30 nu qu sc lo r_1 x2_3 _ _ _ h (lv_sub hl [2, 1, 0] rfl) hf
    · replace hf := it_t hf hc
      refine lv_aload_n hx hb dX2_rowGoesOut_26 rfl (lv_at hl 2 rfl) ?_
      obtain ⟨nu_6, qu_7, lo_8, hq_9, hf⟩ := ob3_use hf
      refine r_callV C h (cw_X2_rowGoesOut_X2_skipToPicture_103 C.hts) (rest := []) (ci := 2) (N := 6) (Cn := RX2) (T := TX2) (c_X2_skipToPicture l G cI cC cZ X a0 a1 a2 a3 a4 a5 a6 a7 a8 nu va qu sc lo wt nu_6 qu_7 lo_8 hq_9) [0, 1, 2, 3, 4, 5, 6, 7, 8] rfl rfl rfl rfl 0 rfl rfl hl.1 rfl (Nat.le_of_ble_eq_true rfl) ⟨Nat.le_of_ble_eq_true rfl, Nat.le_of_ble_eq_true rfl⟩ (wSt cI a0 a1 a2 a3 a4 a5 a6 a7 a8 nu_6 va qu_7 sc lo_8 wt) rfl rfl dX2_rowGoesOut_27 (fun H locs h => ?_)
      exact cut_30 nu_6 qu_7 sc lo_8 r_1 x2_3 _ _ _ h (lv_sub hl [2, 1, 0] rfl) hf
def rm_X2_passTicks : Room := { frames := 5, cells := 0, slots := 0, locals := 109 }
set_option maxRecDepth 20000 in
theorem lk_X2_passTicks_9 : Cond.fieldLink RX2 9 "LineDoubler$State" "numbers" "[I" ∈ wsX2_passTicks := List.mem_of_getElem? (i := 1) (by decide +kernel)
set_option maxRecDepth 20000 in
theorem lm_X2_passTicks_70 : Cond.methodLink RX2 70 Lib.Math.min.name ∈ wsX2_passTicks := List.mem_of_getElem? (i := 2) (by decide +kernel)
set_option maxRecDepth 20000 in
theorem ls_X2_passTicks_min : Cond.static Lib.Math.min.name ∈ wsX2_passTicks := List.mem_of_getElem? (i := 3) (by decide +kernel)
set_option maxRecDepth 20000 in
theorem li_X2_passTicks_Math : Cond.initialized "java/lang/Math" ∈ wsX2_passTicks := List.mem_of_getElem? (i := 4) (by decide +kernel)
set_option maxRecDepth 20000 in
theorem lc_X2_passTicks_min : Cond.code Lib.Math.min.name Lib.Math.min.code 2 (some .int) ∈ wsX2_passTicks := List.mem_of_getElem? (i := 5) (by decide +kernel)
set_option maxRecDepth 20000 in
theorem lm_X2_passTicks_76 : Cond.methodLink RX2 76 Lib.Math.max.name ∈ wsX2_passTicks := List.mem_of_getElem? (i := 6) (by decide +kernel)
set_option maxRecDepth 20000 in
theorem ls_X2_passTicks_max : Cond.static Lib.Math.max.name ∈ wsX2_passTicks := List.mem_of_getElem? (i := 7) (by decide +kernel)
set_option maxRecDepth 20000 in
theorem lc_X2_passTicks_max : Cond.code Lib.Math.max.name Lib.Math.max.code 2 (some .int) ∈ wsX2_passTicks := List.mem_of_getElem? (i := 8) (by decide +kernel)
set_option maxRecDepth 20000 in
theorem lk_X2_passTicks_46 : Cond.fieldLink RX2 46 "LineDoubler$State" "waitedSum" "I" ∈ wsX2_passTicks := List.mem_of_getElem? (i := 9) (by decide +kernel)
set_option maxRecDepth 20000 in
theorem in_X2_passTicks_X2 : ∀ x ∈ wsX20, x ∈ wsX2_passTicks := mem_r _ [81, 82, 83, 84, 85, 86] (by decide +kernel)
set_option maxRecDepth 20000 in
theorem cw_X2_passTicks_X4_isWithin_50 {s : State} {args : Array Value} (hts : ∀ w ∈ wsX2_passTicks, w.before args s = true) (hnw : NW s) : va_CN rm_X2_passTicks s args RX2 50 yX4_isWithin "LineDoubler" cX4_isWithin 3 (some .boolean) wsX4_isWithin rm_X4_isWithin 0 0 3 ∧ (Cond.static yX4_isWithin).before args s = true ∧ True :=
  ⟨va_cnB 3 hts gX2_passTicks_X4_isWithin_n50 rfl rfl rfl (hnw.2.1 _ lkM_2_50) (hts _ (List.mem_of_getElem? (i := 11) (by decide +kernel))) (by decide +kernel) ⟨Nat.le_of_ble_eq_true rfl, Nat.le_of_ble_eq_true rfl⟩, hts _ (List.mem_of_getElem? (i := 10) (by decide +kernel)), trivial⟩
set_option maxRecDepth 20000 in
theorem cw_X2_passTicks_X2_rowGoesOut_67 {s : State} {args : Array Value} (hts : ∀ w ∈ wsX2_passTicks, w.before args s = true) : CallW rm_X2_passTicks s args RX2 RX2 67 yX2_rowGoesOut cX2_rowGoesOut 4 none wsX2_rowGoesOut rm_X2_rowGoesOut 0 0 0 :=
  cwV 0 hts gX2_passTicks_X2_rowGoesOut rfl rfl rfl (by decide +kernel) ⟨Nat.le_of_ble_eq_true rfl, Nat.le_of_ble_eq_true rfl⟩
set_option maxRecDepth 20000 in
theorem cw_X2_passTicks_X2_lineComes_64 {s : State} {args : Array Value} (hts : ∀ w ∈ wsX2_passTicks, w.before args s = true) : CallW rm_X2_passTicks s args RX2 RX2 64 yX2_lineComes cX2_lineComes 3 none wsX2_lineComes rm_X2_lineComes 0 0 0 :=
  cwV 0 hts gX2_passTicks_X2_lineComes rfl rfl rfl (by decide +kernel) ⟨Nat.le_of_ble_eq_true rfl, Nat.le_of_ble_eq_true rfl⟩
set_option maxHeartbeats 4000000 in
set_option maxRecDepth 100000 in
theorem c_X2_passTicks (l : Launch) (G : va_G) (cI cC cZ : ClassId) (X : List (ClassId × FieldType)) (a0 a1 a2 a3 a4 a5 a6 a7 a8 : Nat) (nu : Nat → Int32) (va : Nat → Int32) (qu : Nat → Int32) (sc : Nat → Int32) (lo : Nat → Int32) (wt : Int32) (x1 : Int32) (x2 : Int32) (rv : Int32) (nu' : Nat → Int32) (qu' : Nat → Int32) (sc' : Nat → Int32) (lo' : Nat → Int32) (wt' : Int32) (hf : fX2_passTicks nu va qu sc lo wt x1 x2 = some (rv, nu', qu', sc', lo', wt')) : CT l yX2_passTicks wsX2_passTicks rm_X2_passTicks G (TY cI cC cZ X) [.ref a0, .int x1, .int x2] (wSt cI a0 a1 a2 a3 a4 a5 a6 a7 a8 nu va qu sc lo wt) (some (.int rv)) (wSt cI a0 a1 a2 a3 a4 a5 a6 a7 a8 nu' va qu' sc' lo' wt') := by
  refine CT.of (cc := cX2_passTicks) (maxL := 6) (ret := (some .int)) RX2 rfl (by decide) rfl (Nat.le_of_ble_eq_true rfl) ?_
  intro p e s m args below meth c A ls C hr hlocks hnm h hl
  have hx := C.hx
  have hb := C.hb
  have hl : lv_has ls 6 [(0, .ref a0), (1, .int x1), (2, .int x2)] := hl
  have cut_31 : ∀ (n : Nat) (nu : Nat → Int32) (qu : Nat → Int32) (sc : Nat → Int32) (lo : Nat → Int32) (wt : Int32) (x1 : Int32) (x3 : Int32) (H : Heap) (locs : List Loc) (ls : Array Slot), Hx s G A (wSt cI a0 a1 a2 a3 a4 a5 a6 a7 a8 nu va qu sc lo wt) H locs → lv_has ls 6 [(0, .ref a0), (1, .int x1), (3, .int x3)] → fX2_passTicks_31 n nu va qu sc lo wt x1 x3 = some (rv, nu', qu', sc', lo', wt') → W p l e rm_X2_passTicks s m args below meth c H locs 0 0 (MQ below (Qx G (some (.int rv)) (wSt cI a0 a1 a2 a3 a4 a5 a6 a7 a8 nu' va qu' sc' lo' wt') A) args s 0 0 A) (F0 m 31 ls []) := by
    intro n
    induction n with
    | zero =>
      intro nu qu sc lo wt x1 x3 H locs ls h hl hf
      exact (nn_some _ hf).elim
    | succ n ih =>
      intro nu qu sc lo wt x1 x3 H locs ls h hl hf
      have hf : fX2_passTicks_31_b (fX2_passTicks_31 n) nu va qu sc lo wt x1 x3 = some (rv, nu', qu', sc', lo', wt') := hf
      unfold fX2_passTicks_31_b at hf
      refine lv_iload_n hx hb dX2_passTicks_31 rfl (lv_at hl 2 rfl) ?_
      refine lv_iload_n hx hb dX2_passTicks_32 rfl (lv_at hl 1 rfl) ?_
      refine lv_icmp_ge (tgt := 153) hx hb dX2_passTicks_33 (by decide) (fun hc => ?_) (fun hc => ?_)
      · replace hf := it_t hf hc
        refine lv_aload_n hx hb dX2_passTicks_153 rfl (lv_at hl 0 rfl) ?_
        refine r_get C h 0 0 (ci := 2) (N := 6) (Cn := RX2) (T := TX2) rfl rfl (by decide) in_X2_passTicks_X2 lk_X2_passTicks_9 rfl dX2_passTicks_154 ?_
        refine lv_iconst (v := 0) hx hb dX2_passTicks_157 (by decide) ?_
        refine r_ald C h 1 rfl rfl k_0_24 dX2_passTicks_158 ?_
        cases hf
        exact r_iret C h hr hlocks dX2_passTicks_159
      · replace hf := it_f hf hc
        refine lv_aload_n hx hb dX2_passTicks_36 rfl (lv_at hl 0 rfl) ?_
        refine r_get C h 0 0 (ci := 2) (N := 6) (Cn := RX2) (T := TX2) rfl rfl (by decide) in_X2_passTicks_X2 lk_X2_passTicks_9 rfl dX2_passTicks_37 ?_
        refine lv_iconst (v := 0) hx hb dX2_passTicks_40 (by decide) ?_
        refine r_ald C h 1 rfl rfl k_0_24 dX2_passTicks_41 ?_
        refine lv_aload_n hx hb dX2_passTicks_42 rfl (lv_at hl 0 rfl) ?_
        refine r_get C h 0 0 (ci := 2) (N := 6) (Cn := RX2) (T := TX2) rfl rfl (by decide) in_X2_passTicks_X2 lk_X2_passTicks_9 rfl dX2_passTicks_43 ?_
        refine lv_bipush (v := 10) hx hb dX2_passTicks_46 (by decide) ?_
        refine r_ald C h 1 rfl rfl k_10_24 dX2_passTicks_48 ?_
        refine lv_icmp_ne (tgt := 56) hx hb dX2_passTicks_49 (by decide) (fun hc => ?_) (fun hc => ?_)
        · replace hf := it_f hf hc
          refine lv_aload_n hx hb dX2_passTicks_56 rfl (lv_at hl 0 rfl) ?_
          refine r_get C h 0 0 (ci := 2) (N := 6) (Cn := RX2) (T := TX2) rfl rfl (by decide) in_X2_passTicks_X2 lk_X2_passTicks_9 rfl dX2_passTicks_57 ?_
          refine lv_iconst (v := 0) hx hb dX2_passTicks_60 (by decide) ?_
          refine r_ald C h 1 rfl rfl k_0_24 dX2_passTicks_61 ?_
          refine lv_aload_n hx hb dX2_passTicks_62 rfl (lv_at hl 0 rfl) ?_
          refine r_get C h 0 0 (ci := 2) (N := 6) (Cn := RX2) (T := TX2) rfl rfl (by decide) in_X2_passTicks_X2 lk_X2_passTicks_9 rfl dX2_passTicks_63 ?_
          refine lv_bipush (v := 11) hx hb dX2_passTicks_66 (by decide) ?_
          refine r_ald C h 1 rfl rfl k_11_24 dX2_passTicks_68 ?_
          refine lv_icmp_ne (tgt := 76) hx hb dX2_passTicks_69 (by decide) (fun hc => ?_) (fun hc => ?_)
          · replace hf := it_f hf hc
            refine lv_aload_n hx hb dX2_passTicks_76 rfl (lv_at hl 0 rfl) ?_
            refine r_get C h 0 0 (ci := 2) (N := 6) (Cn := RX2) (T := TX2) rfl rfl (by decide) in_X2_passTicks_X2 lk_X2_passTicks_9 rfl dX2_passTicks_77 ?_
            refine lv_bipush (v := 10) hx hb dX2_passTicks_80 (by decide) ?_
            refine r_ald C h 1 rfl rfl k_10_24 dX2_passTicks_82 ?_
            refine lv_aload_n hx hb dX2_passTicks_83 rfl (lv_at hl 0 rfl) ?_
            refine r_get C h 0 0 (ci := 2) (N := 6) (Cn := RX2) (T := TX2) rfl rfl (by decide) in_X2_passTicks_X2 lk_X2_passTicks_9 rfl dX2_passTicks_84 ?_
            refine lv_bipush (v := 11) hx hb dX2_passTicks_87 (by decide) ?_
            refine r_ald C h 1 rfl rfl k_11_24 dX2_passTicks_89 ?_
            refine r_min C hl.1 lm_X2_passTicks_70 ls_X2_passTicks_min li_X2_passTicks_Math lc_X2_passTicks_min (Nat.le_of_ble_eq_true rfl) (Nat.le_of_ble_eq_true rfl) (Nat.le_of_ble_eq_true rfl) (Nat.le_of_ble_eq_true rfl) dX2_passTicks_90 ?_
            refine lv_aload_n hx hb dX2_passTicks_93 rfl (lv_at hl 0 rfl) ?_
            refine r_get C h 0 0 (ci := 2) (N := 6) (Cn := RX2) (T := TX2) rfl rfl (by decide) in_X2_passTicks_X2 lk_X2_passTicks_9 rfl dX2_passTicks_94 ?_
            refine lv_iconst (v := 0) hx hb dX2_passTicks_97 (by decide) ?_
            refine r_ald C h 1 rfl rfl k_0_24 dX2_passTicks_98 ?_
            refine lv_isub hx hb dX2_passTicks_99 ?_
            refine lv_topi (fun x4_1 ex4_1 => ?_)
            replace hf := nm_use hf ex4_1
            refine lv_istore (lv' := [(4, .int x4_1), (0, .ref a0), (1, .int x1), (3, .int x3)]) hx hb dX2_passTicks_100 hl (by decide) rfl (fun ls hl => ?_)
            refine lv_iconst (v := 1) hx hb dX2_passTicks_102 (by decide) ?_
            refine lv_iload hx hb dX2_passTicks_103 (lv_at hl 0 rfl) ?_
            refine lv_iload_n hx hb dX2_passTicks_105 rfl (lv_at hl 2 rfl) ?_
            refine lv_iload_n hx hb dX2_passTicks_106 rfl (lv_at hl 3 rfl) ?_
            refine lv_isub hx hb dX2_passTicks_107 ?_
            refine r_min C hl.1 lm_X2_passTicks_70 ls_X2_passTicks_min li_X2_passTicks_Math lc_X2_passTicks_min (Nat.le_of_ble_eq_true rfl) (Nat.le_of_ble_eq_true rfl) (Nat.le_of_ble_eq_true rfl) (Nat.le_of_ble_eq_true rfl) dX2_passTicks_108 ?_
            refine r_max C hl.1 lm_X2_passTicks_76 ls_X2_passTicks_max li_X2_passTicks_Math lc_X2_passTicks_max (Nat.le_of_ble_eq_true rfl) (Nat.le_of_ble_eq_true rfl) (Nat.le_of_ble_eq_true rfl) (Nat.le_of_ble_eq_true rfl) dX2_passTicks_111 ?_
            refine lv_topi (fun x5_2 ex5_2 => ?_)
            replace hf := nm_use hf ex5_2
            refine lv_istore (lv' := [(5, .int x5_2), (4, .int x4_1), (0, .ref a0), (1, .int x1), (3, .int x3)]) hx hb dX2_passTicks_114 hl (by decide) rfl (fun ls hl => ?_)
            refine lv_aload_n hx hb dX2_passTicks_116 rfl (lv_at hl 2 rfl) ?_
            refine lv_dup hx hb dX2_passTicks_117 rfl ?_
            refine r_get C h 0 5 (ci := 2) (N := 6) (Cn := RX2) (T := TX2) rfl rfl (by decide) in_X2_passTicks_X2 lk_X2_passTicks_46 rfl dX2_passTicks_118 ?_
            refine lv_iload hx hb dX2_passTicks_121 (lv_at hl 0 rfl) ?_
            refine lv_aload_n hx hb dX2_passTicks_123 rfl (lv_at hl 2 rfl) ?_
            refine r_get C h 0 0 (ci := 2) (N := 6) (Cn := RX2) (T := TX2) rfl rfl (by decide) in_X2_passTicks_X2 lk_X2_passTicks_9 rfl dX2_passTicks_124 ?_
            refine lv_iconst (v := 2) hx hb dX2_passTicks_127 (by decide) ?_
            refine r_ald C h 1 rfl rfl k_2_24 dX2_passTicks_128 ?_
            refine lv_imul hx hb dX2_passTicks_129 ?_
            refine lv_iadd hx hb dX2_passTicks_130 ?_
            refine lv_topi (fun wt_3 ewt_3 => ?_)
            replace hf := nm_use hf ewt_3
            refine r_put C h 0 5 (ci := 2) (N := 6) (Cn := RX2) (T := TX2) (ty0 := tyX2) rfl rfl (by decide) in_X2_passTicks_X2 tyX2_ok nmX2 lk_X2_passTicks_46 rfl rfl rfl (Nat.le_of_ble_eq_true rfl) (wSt cI a0 a1 a2 a3 a4 a5 a6 a7 a8 nu va qu sc lo wt_3) rfl dX2_passTicks_131 (fun H locs h => ?_)
            refine lv_aload_n hx hb dX2_passTicks_134 rfl (lv_at hl 2 rfl) ?_
            refine r_get C h 0 0 (ci := 2) (N := 6) (Cn := RX2) (T := TX2) rfl rfl (by decide) in_X2_passTicks_X2 lk_X2_passTicks_9 rfl dX2_passTicks_135 ?_
            refine lv_iconst (v := 0) hx hb dX2_passTicks_138 (by decide) ?_
            refine lv_dup2_11 hx hb dX2_passTicks_139 rfl rfl ?_
            refine r_ald C h 1 rfl rfl k_0_24 dX2_passTicks_140 ?_
            refine lv_iload hx hb dX2_passTicks_141 (lv_at hl 0 rfl) ?_
            refine lv_iadd hx hb dX2_passTicks_143 ?_
            refine r_ast C h 1 rfl rfl k_0_24 (fun z__ => (wSt cI a0 a1 a2 a3 a4 a5 a6 a7 a8 z__ va qu sc lo wt_3)) (fun _ => rfl) dX2_passTicks_144 (fun nu_4 enu_4 H locs h => ?_)
            replace hf := nm_use hf enu_4
            refine lv_iload_n hx hb dX2_passTicks_145 rfl (lv_at hl 4 rfl) ?_
            refine lv_iload hx hb dX2_passTicks_146 (lv_at hl 0 rfl) ?_
            refine lv_iadd hx hb dX2_passTicks_148 ?_
            refine lv_topi (fun x3_5 ex3_5 => ?_)
            replace hf := nm_use hf ex3_5
            refine lv_istore_n (lv' := [(3, .int x3_5), (5, .int x5_2), (4, .int x4_1), (0, .ref a0), (1, .int x1)]) hx hb dX2_passTicks_149 rfl hl (by decide) rfl (fun ls hl => ?_)
            refine lv_goto (tgt := 31) hx hb dX2_passTicks_150 (by decide) ?_
            exact ih nu_4 qu sc lo wt_3 x1 x3_5 _ _ _ h (lv_sub hl [3, 4, 0] rfl) hf
          · replace hf := it_t hf hc
            refine lv_aload_n hx hb dX2_passTicks_72 rfl (lv_at hl 0 rfl) ?_
            obtain ⟨nu_6, qu_7, sc_8, lo_9, hq_10, hf⟩ := ob4_use hf
            refine r_callV C h (cw_X2_passTicks_X2_rowGoesOut_67 C.hts) (rest := []) (ci := 2) (N := 6) (Cn := RX2) (T := TX2) (c_X2_rowGoesOut l G cI cC cZ X a0 a1 a2 a3 a4 a5 a6 a7 a8 nu va qu sc lo wt nu_6 qu_7 sc_8 lo_9 hq_10) [0, 1, 2, 3, 4, 5, 6, 7, 8] rfl rfl rfl rfl 0 rfl rfl hl.1 rfl (Nat.le_of_ble_eq_true rfl) ⟨Nat.le_of_ble_eq_true rfl, Nat.le_of_ble_eq_true rfl⟩ (wSt cI a0 a1 a2 a3 a4 a5 a6 a7 a8 nu_6 va qu_7 sc_8 lo_9 wt) rfl rfl dX2_passTicks_73 (fun H locs h => ?_)
            refine lv_aload_n hx hb dX2_passTicks_76 rfl (lv_at hl 0 rfl) ?_
            refine r_get C h 0 0 (ci := 2) (N := 6) (Cn := RX2) (T := TX2) rfl rfl (by decide) in_X2_passTicks_X2 lk_X2_passTicks_9 rfl dX2_passTicks_77 ?_
            refine lv_bipush (v := 10) hx hb dX2_passTicks_80 (by decide) ?_
            refine r_ald C h 1 rfl rfl k_10_24 dX2_passTicks_82 ?_
            refine lv_aload_n hx hb dX2_passTicks_83 rfl (lv_at hl 0 rfl) ?_
            refine r_get C h 0 0 (ci := 2) (N := 6) (Cn := RX2) (T := TX2) rfl rfl (by decide) in_X2_passTicks_X2 lk_X2_passTicks_9 rfl dX2_passTicks_84 ?_
            refine lv_bipush (v := 11) hx hb dX2_passTicks_87 (by decide) ?_
            refine r_ald C h 1 rfl rfl k_11_24 dX2_passTicks_89 ?_
            refine r_min C hl.1 lm_X2_passTicks_70 ls_X2_passTicks_min li_X2_passTicks_Math lc_X2_passTicks_min (Nat.le_of_ble_eq_true rfl) (Nat.le_of_ble_eq_true rfl) (Nat.le_of_ble_eq_true rfl) (Nat.le_of_ble_eq_true rfl) dX2_passTicks_90 ?_
            refine lv_aload_n hx hb dX2_passTicks_93 rfl (lv_at hl 0 rfl) ?_
            refine r_get C h 0 0 (ci := 2) (N := 6) (Cn := RX2) (T := TX2) rfl rfl (by decide) in_X2_passTicks_X2 lk_X2_passTicks_9 rfl dX2_passTicks_94 ?_
            refine lv_iconst (v := 0) hx hb dX2_passTicks_97 (by decide) ?_
            refine r_ald C h 1 rfl rfl k_0_24 dX2_passTicks_98 ?_
            refine lv_isub hx hb dX2_passTicks_99 ?_
            refine lv_topi (fun x4_11 ex4_11 => ?_)
            replace hf := nm_use hf ex4_11
            refine lv_istore (lv' := [(4, .int x4_11), (0, .ref a0), (1, .int x1), (3, .int x3)]) hx hb dX2_passTicks_100 hl (by decide) rfl (fun ls hl => ?_)
            refine lv_iconst (v := 1) hx hb dX2_passTicks_102 (by decide) ?_
            refine lv_iload hx hb dX2_passTicks_103 (lv_at hl 0 rfl) ?_
            refine lv_iload_n hx hb dX2_passTicks_105 rfl (lv_at hl 2 rfl) ?_
            refine lv_iload_n hx hb dX2_passTicks_106 rfl (lv_at hl 3 rfl) ?_
            refine lv_isub hx hb dX2_passTicks_107 ?_
            refine r_min C hl.1 lm_X2_passTicks_70 ls_X2_passTicks_min li_X2_passTicks_Math lc_X2_passTicks_min (Nat.le_of_ble_eq_true rfl) (Nat.le_of_ble_eq_true rfl) (Nat.le_of_ble_eq_true rfl) (Nat.le_of_ble_eq_true rfl) dX2_passTicks_108 ?_
            refine r_max C hl.1 lm_X2_passTicks_76 ls_X2_passTicks_max li_X2_passTicks_Math lc_X2_passTicks_max (Nat.le_of_ble_eq_true rfl) (Nat.le_of_ble_eq_true rfl) (Nat.le_of_ble_eq_true rfl) (Nat.le_of_ble_eq_true rfl) dX2_passTicks_111 ?_
            refine lv_topi (fun x5_12 ex5_12 => ?_)
            replace hf := nm_use hf ex5_12
            refine lv_istore (lv' := [(5, .int x5_12), (4, .int x4_11), (0, .ref a0), (1, .int x1), (3, .int x3)]) hx hb dX2_passTicks_114 hl (by decide) rfl (fun ls hl => ?_)
            refine lv_aload_n hx hb dX2_passTicks_116 rfl (lv_at hl 2 rfl) ?_
            refine lv_dup hx hb dX2_passTicks_117 rfl ?_
            refine r_get C h 0 5 (ci := 2) (N := 6) (Cn := RX2) (T := TX2) rfl rfl (by decide) in_X2_passTicks_X2 lk_X2_passTicks_46 rfl dX2_passTicks_118 ?_
            refine lv_iload hx hb dX2_passTicks_121 (lv_at hl 0 rfl) ?_
            refine lv_aload_n hx hb dX2_passTicks_123 rfl (lv_at hl 2 rfl) ?_
            refine r_get C h 0 0 (ci := 2) (N := 6) (Cn := RX2) (T := TX2) rfl rfl (by decide) in_X2_passTicks_X2 lk_X2_passTicks_9 rfl dX2_passTicks_124 ?_
            refine lv_iconst (v := 2) hx hb dX2_passTicks_127 (by decide) ?_
            refine r_ald C h 1 rfl rfl k_2_24 dX2_passTicks_128 ?_
            refine lv_imul hx hb dX2_passTicks_129 ?_
            refine lv_iadd hx hb dX2_passTicks_130 ?_
            refine lv_topi (fun wt_13 ewt_13 => ?_)
            replace hf := nm_use hf ewt_13
            refine r_put C h 0 5 (ci := 2) (N := 6) (Cn := RX2) (T := TX2) (ty0 := tyX2) rfl rfl (by decide) in_X2_passTicks_X2 tyX2_ok nmX2 lk_X2_passTicks_46 rfl rfl rfl (Nat.le_of_ble_eq_true rfl) (wSt cI a0 a1 a2 a3 a4 a5 a6 a7 a8 nu_6 va qu_7 sc_8 lo_9 wt_13) rfl dX2_passTicks_131 (fun H locs h => ?_)
            refine lv_aload_n hx hb dX2_passTicks_134 rfl (lv_at hl 2 rfl) ?_
            refine r_get C h 0 0 (ci := 2) (N := 6) (Cn := RX2) (T := TX2) rfl rfl (by decide) in_X2_passTicks_X2 lk_X2_passTicks_9 rfl dX2_passTicks_135 ?_
            refine lv_iconst (v := 0) hx hb dX2_passTicks_138 (by decide) ?_
            refine lv_dup2_11 hx hb dX2_passTicks_139 rfl rfl ?_
            refine r_ald C h 1 rfl rfl k_0_24 dX2_passTicks_140 ?_
            refine lv_iload hx hb dX2_passTicks_141 (lv_at hl 0 rfl) ?_
            refine lv_iadd hx hb dX2_passTicks_143 ?_
            refine r_ast C h 1 rfl rfl k_0_24 (fun z__ => (wSt cI a0 a1 a2 a3 a4 a5 a6 a7 a8 z__ va qu_7 sc_8 lo_9 wt_13)) (fun _ => rfl) dX2_passTicks_144 (fun nu_14 enu_14 H locs h => ?_)
            replace hf := nm_use hf enu_14
            refine lv_iload_n hx hb dX2_passTicks_145 rfl (lv_at hl 4 rfl) ?_
            refine lv_iload hx hb dX2_passTicks_146 (lv_at hl 0 rfl) ?_
            refine lv_iadd hx hb dX2_passTicks_148 ?_
            refine lv_topi (fun x3_15 ex3_15 => ?_)
            replace hf := nm_use hf ex3_15
            refine lv_istore_n (lv' := [(3, .int x3_15), (5, .int x5_12), (4, .int x4_11), (0, .ref a0), (1, .int x1)]) hx hb dX2_passTicks_149 rfl hl (by decide) rfl (fun ls hl => ?_)
            refine lv_goto (tgt := 31) hx hb dX2_passTicks_150 (by decide) ?_
            exact ih nu_14 qu_7 sc_8 lo_9 wt_13 x1 x3_15 _ _ _ h (lv_sub hl [3, 4, 0] rfl) hf
        · replace hf := it_t hf hc
          refine lv_aload_n hx hb dX2_passTicks_52 rfl (lv_at hl 0 rfl) ?_
          obtain ⟨nu_16, qu_17, lo_18, hq_19, hf⟩ := ob3_use hf
          refine r_callV C h (cw_X2_passTicks_X2_lineComes_64 C.hts) (rest := []) (ci := 2) (N := 6) (Cn := RX2) (T := TX2) (c_X2_lineComes l G cI cC cZ X a0 a1 a2 a3 a4 a5 a6 a7 a8 nu va qu sc lo wt nu_16 qu_17 lo_18 hq_19) [0, 1, 2, 3, 4, 5, 6, 7, 8] rfl rfl rfl rfl 0 rfl rfl hl.1 rfl (Nat.le_of_ble_eq_true rfl) ⟨Nat.le_of_ble_eq_true rfl, Nat.le_of_ble_eq_true rfl⟩ (wSt cI a0 a1 a2 a3 a4 a5 a6 a7 a8 nu_16 va qu_17 sc lo_18 wt) rfl rfl dX2_passTicks_53 (fun H locs h => ?_)
          refine lv_aload_n hx hb dX2_passTicks_56 rfl (lv_at hl 0 rfl) ?_
          refine r_get C h 0 0 (ci := 2) (N := 6) (Cn := RX2) (T := TX2) rfl rfl (by decide) in_X2_passTicks_X2 lk_X2_passTicks_9 rfl dX2_passTicks_57 ?_
          refine lv_iconst (v := 0) hx hb dX2_passTicks_60 (by decide) ?_
          refine r_ald C h 1 rfl rfl k_0_24 dX2_passTicks_61 ?_
          refine lv_aload_n hx hb dX2_passTicks_62 rfl (lv_at hl 0 rfl) ?_
          refine r_get C h 0 0 (ci := 2) (N := 6) (Cn := RX2) (T := TX2) rfl rfl (by decide) in_X2_passTicks_X2 lk_X2_passTicks_9 rfl dX2_passTicks_63 ?_
          refine lv_bipush (v := 11) hx hb dX2_passTicks_66 (by decide) ?_
          refine r_ald C h 1 rfl rfl k_11_24 dX2_passTicks_68 ?_
          refine lv_icmp_ne (tgt := 76) hx hb dX2_passTicks_69 (by decide) (fun hc => ?_) (fun hc => ?_)
          · replace hf := it_f hf hc
            refine lv_aload_n hx hb dX2_passTicks_76 rfl (lv_at hl 0 rfl) ?_
            refine r_get C h 0 0 (ci := 2) (N := 6) (Cn := RX2) (T := TX2) rfl rfl (by decide) in_X2_passTicks_X2 lk_X2_passTicks_9 rfl dX2_passTicks_77 ?_
            refine lv_bipush (v := 10) hx hb dX2_passTicks_80 (by decide) ?_
            refine r_ald C h 1 rfl rfl k_10_24 dX2_passTicks_82 ?_
            refine lv_aload_n hx hb dX2_passTicks_83 rfl (lv_at hl 0 rfl) ?_
            refine r_get C h 0 0 (ci := 2) (N := 6) (Cn := RX2) (T := TX2) rfl rfl (by decide) in_X2_passTicks_X2 lk_X2_passTicks_9 rfl dX2_passTicks_84 ?_
            refine lv_bipush (v := 11) hx hb dX2_passTicks_87 (by decide) ?_
            refine r_ald C h 1 rfl rfl k_11_24 dX2_passTicks_89 ?_
            refine r_min C hl.1 lm_X2_passTicks_70 ls_X2_passTicks_min li_X2_passTicks_Math lc_X2_passTicks_min (Nat.le_of_ble_eq_true rfl) (Nat.le_of_ble_eq_true rfl) (Nat.le_of_ble_eq_true rfl) (Nat.le_of_ble_eq_true rfl) dX2_passTicks_90 ?_
            refine lv_aload_n hx hb dX2_passTicks_93 rfl (lv_at hl 0 rfl) ?_
            refine r_get C h 0 0 (ci := 2) (N := 6) (Cn := RX2) (T := TX2) rfl rfl (by decide) in_X2_passTicks_X2 lk_X2_passTicks_9 rfl dX2_passTicks_94 ?_
            refine lv_iconst (v := 0) hx hb dX2_passTicks_97 (by decide) ?_
            refine r_ald C h 1 rfl rfl k_0_24 dX2_passTicks_98 ?_
            refine lv_isub hx hb dX2_passTicks_99 ?_
            refine lv_topi (fun x4_20 ex4_20 => ?_)
            replace hf := nm_use hf ex4_20
            refine lv_istore (lv' := [(4, .int x4_20), (0, .ref a0), (1, .int x1), (3, .int x3)]) hx hb dX2_passTicks_100 hl (by decide) rfl (fun ls hl => ?_)
            refine lv_iconst (v := 1) hx hb dX2_passTicks_102 (by decide) ?_
            refine lv_iload hx hb dX2_passTicks_103 (lv_at hl 0 rfl) ?_
            refine lv_iload_n hx hb dX2_passTicks_105 rfl (lv_at hl 2 rfl) ?_
            refine lv_iload_n hx hb dX2_passTicks_106 rfl (lv_at hl 3 rfl) ?_
            refine lv_isub hx hb dX2_passTicks_107 ?_
            refine r_min C hl.1 lm_X2_passTicks_70 ls_X2_passTicks_min li_X2_passTicks_Math lc_X2_passTicks_min (Nat.le_of_ble_eq_true rfl) (Nat.le_of_ble_eq_true rfl) (Nat.le_of_ble_eq_true rfl) (Nat.le_of_ble_eq_true rfl) dX2_passTicks_108 ?_
            refine r_max C hl.1 lm_X2_passTicks_76 ls_X2_passTicks_max li_X2_passTicks_Math lc_X2_passTicks_max (Nat.le_of_ble_eq_true rfl) (Nat.le_of_ble_eq_true rfl) (Nat.le_of_ble_eq_true rfl) (Nat.le_of_ble_eq_true rfl) dX2_passTicks_111 ?_
            refine lv_topi (fun x5_21 ex5_21 => ?_)
            replace hf := nm_use hf ex5_21
            refine lv_istore (lv' := [(5, .int x5_21), (4, .int x4_20), (0, .ref a0), (1, .int x1), (3, .int x3)]) hx hb dX2_passTicks_114 hl (by decide) rfl (fun ls hl => ?_)
            refine lv_aload_n hx hb dX2_passTicks_116 rfl (lv_at hl 2 rfl) ?_
            refine lv_dup hx hb dX2_passTicks_117 rfl ?_
            refine r_get C h 0 5 (ci := 2) (N := 6) (Cn := RX2) (T := TX2) rfl rfl (by decide) in_X2_passTicks_X2 lk_X2_passTicks_46 rfl dX2_passTicks_118 ?_
            refine lv_iload hx hb dX2_passTicks_121 (lv_at hl 0 rfl) ?_
            refine lv_aload_n hx hb dX2_passTicks_123 rfl (lv_at hl 2 rfl) ?_
            refine r_get C h 0 0 (ci := 2) (N := 6) (Cn := RX2) (T := TX2) rfl rfl (by decide) in_X2_passTicks_X2 lk_X2_passTicks_9 rfl dX2_passTicks_124 ?_
            refine lv_iconst (v := 2) hx hb dX2_passTicks_127 (by decide) ?_
            refine r_ald C h 1 rfl rfl k_2_24 dX2_passTicks_128 ?_
            refine lv_imul hx hb dX2_passTicks_129 ?_
            refine lv_iadd hx hb dX2_passTicks_130 ?_
            refine lv_topi (fun wt_22 ewt_22 => ?_)
            replace hf := nm_use hf ewt_22
            refine r_put C h 0 5 (ci := 2) (N := 6) (Cn := RX2) (T := TX2) (ty0 := tyX2) rfl rfl (by decide) in_X2_passTicks_X2 tyX2_ok nmX2 lk_X2_passTicks_46 rfl rfl rfl (Nat.le_of_ble_eq_true rfl) (wSt cI a0 a1 a2 a3 a4 a5 a6 a7 a8 nu_16 va qu_17 sc lo_18 wt_22) rfl dX2_passTicks_131 (fun H locs h => ?_)
            refine lv_aload_n hx hb dX2_passTicks_134 rfl (lv_at hl 2 rfl) ?_
            refine r_get C h 0 0 (ci := 2) (N := 6) (Cn := RX2) (T := TX2) rfl rfl (by decide) in_X2_passTicks_X2 lk_X2_passTicks_9 rfl dX2_passTicks_135 ?_
            refine lv_iconst (v := 0) hx hb dX2_passTicks_138 (by decide) ?_
            refine lv_dup2_11 hx hb dX2_passTicks_139 rfl rfl ?_
            refine r_ald C h 1 rfl rfl k_0_24 dX2_passTicks_140 ?_
            refine lv_iload hx hb dX2_passTicks_141 (lv_at hl 0 rfl) ?_
            refine lv_iadd hx hb dX2_passTicks_143 ?_
            refine r_ast C h 1 rfl rfl k_0_24 (fun z__ => (wSt cI a0 a1 a2 a3 a4 a5 a6 a7 a8 z__ va qu_17 sc lo_18 wt_22)) (fun _ => rfl) dX2_passTicks_144 (fun nu_23 enu_23 H locs h => ?_)
            replace hf := nm_use hf enu_23
            refine lv_iload_n hx hb dX2_passTicks_145 rfl (lv_at hl 4 rfl) ?_
            refine lv_iload hx hb dX2_passTicks_146 (lv_at hl 0 rfl) ?_
            refine lv_iadd hx hb dX2_passTicks_148 ?_
            refine lv_topi (fun x3_24 ex3_24 => ?_)
            replace hf := nm_use hf ex3_24
            refine lv_istore_n (lv' := [(3, .int x3_24), (5, .int x5_21), (4, .int x4_20), (0, .ref a0), (1, .int x1)]) hx hb dX2_passTicks_149 rfl hl (by decide) rfl (fun ls hl => ?_)
            refine lv_goto (tgt := 31) hx hb dX2_passTicks_150 (by decide) ?_
            exact ih nu_23 qu_17 sc lo_18 wt_22 x1 x3_24 _ _ _ h (lv_sub hl [3, 4, 0] rfl) hf
          · replace hf := it_t hf hc
            refine lv_aload_n hx hb dX2_passTicks_72 rfl (lv_at hl 0 rfl) ?_
            obtain ⟨nu_25, qu_26, sc_27, lo_28, hq_29, hf⟩ := ob4_use hf
            refine r_callV C h (cw_X2_passTicks_X2_rowGoesOut_67 C.hts) (rest := []) (ci := 2) (N := 6) (Cn := RX2) (T := TX2) (c_X2_rowGoesOut l G cI cC cZ X a0 a1 a2 a3 a4 a5 a6 a7 a8 nu_16 va qu_17 sc lo_18 wt nu_25 qu_26 sc_27 lo_28 hq_29) [0, 1, 2, 3, 4, 5, 6, 7, 8] rfl rfl rfl rfl 0 rfl rfl hl.1 rfl (Nat.le_of_ble_eq_true rfl) ⟨Nat.le_of_ble_eq_true rfl, Nat.le_of_ble_eq_true rfl⟩ (wSt cI a0 a1 a2 a3 a4 a5 a6 a7 a8 nu_25 va qu_26 sc_27 lo_28 wt) rfl rfl dX2_passTicks_73 (fun H locs h => ?_)
            refine lv_aload_n hx hb dX2_passTicks_76 rfl (lv_at hl 0 rfl) ?_
            refine r_get C h 0 0 (ci := 2) (N := 6) (Cn := RX2) (T := TX2) rfl rfl (by decide) in_X2_passTicks_X2 lk_X2_passTicks_9 rfl dX2_passTicks_77 ?_
            refine lv_bipush (v := 10) hx hb dX2_passTicks_80 (by decide) ?_
            refine r_ald C h 1 rfl rfl k_10_24 dX2_passTicks_82 ?_
            refine lv_aload_n hx hb dX2_passTicks_83 rfl (lv_at hl 0 rfl) ?_
            refine r_get C h 0 0 (ci := 2) (N := 6) (Cn := RX2) (T := TX2) rfl rfl (by decide) in_X2_passTicks_X2 lk_X2_passTicks_9 rfl dX2_passTicks_84 ?_
            refine lv_bipush (v := 11) hx hb dX2_passTicks_87 (by decide) ?_
            refine r_ald C h 1 rfl rfl k_11_24 dX2_passTicks_89 ?_
            refine r_min C hl.1 lm_X2_passTicks_70 ls_X2_passTicks_min li_X2_passTicks_Math lc_X2_passTicks_min (Nat.le_of_ble_eq_true rfl) (Nat.le_of_ble_eq_true rfl) (Nat.le_of_ble_eq_true rfl) (Nat.le_of_ble_eq_true rfl) dX2_passTicks_90 ?_
            refine lv_aload_n hx hb dX2_passTicks_93 rfl (lv_at hl 0 rfl) ?_
            refine r_get C h 0 0 (ci := 2) (N := 6) (Cn := RX2) (T := TX2) rfl rfl (by decide) in_X2_passTicks_X2 lk_X2_passTicks_9 rfl dX2_passTicks_94 ?_
            refine lv_iconst (v := 0) hx hb dX2_passTicks_97 (by decide) ?_
            refine r_ald C h 1 rfl rfl k_0_24 dX2_passTicks_98 ?_
            refine lv_isub hx hb dX2_passTicks_99 ?_
            refine lv_topi (fun x4_30 ex4_30 => ?_)
            replace hf := nm_use hf ex4_30
            refine lv_istore (lv' := [(4, .int x4_30), (0, .ref a0), (1, .int x1), (3, .int x3)]) hx hb dX2_passTicks_100 hl (by decide) rfl (fun ls hl => ?_)
            refine lv_iconst (v := 1) hx hb dX2_passTicks_102 (by decide) ?_
            refine lv_iload hx hb dX2_passTicks_103 (lv_at hl 0 rfl) ?_
            refine lv_iload_n hx hb dX2_passTicks_105 rfl (lv_at hl 2 rfl) ?_
            refine lv_iload_n hx hb dX2_passTicks_106 rfl (lv_at hl 3 rfl) ?_
            refine lv_isub hx hb dX2_passTicks_107 ?_
            refine r_min C hl.1 lm_X2_passTicks_70 ls_X2_passTicks_min li_X2_passTicks_Math lc_X2_passTicks_min (Nat.le_of_ble_eq_true rfl) (Nat.le_of_ble_eq_true rfl) (Nat.le_of_ble_eq_true rfl) (Nat.le_of_ble_eq_true rfl) dX2_passTicks_108 ?_
            refine r_max C hl.1 lm_X2_passTicks_76 ls_X2_passTicks_max li_X2_passTicks_Math lc_X2_passTicks_max (Nat.le_of_ble_eq_true rfl) (Nat.le_of_ble_eq_true rfl) (Nat.le_of_ble_eq_true rfl) (Nat.le_of_ble_eq_true rfl) dX2_passTicks_111 ?_
            refine lv_topi (fun x5_31 ex5_31 => ?_)
            replace hf := nm_use hf ex5_31
            refine lv_istore (lv' := [(5, .int x5_31), (4, .int x4_30), (0, .ref a0), (1, .int x1), (3, .int x3)]) hx hb dX2_passTicks_114 hl (by decide) rfl (fun ls hl => ?_)
            refine lv_aload_n hx hb dX2_passTicks_116 rfl (lv_at hl 2 rfl) ?_
            refine lv_dup hx hb dX2_passTicks_117 rfl ?_
            refine r_get C h 0 5 (ci := 2) (N := 6) (Cn := RX2) (T := TX2) rfl rfl (by decide) in_X2_passTicks_X2 lk_X2_passTicks_46 rfl dX2_passTicks_118 ?_
            refine lv_iload hx hb dX2_passTicks_121 (lv_at hl 0 rfl) ?_
            refine lv_aload_n hx hb dX2_passTicks_123 rfl (lv_at hl 2 rfl) ?_
            refine r_get C h 0 0 (ci := 2) (N := 6) (Cn := RX2) (T := TX2) rfl rfl (by decide) in_X2_passTicks_X2 lk_X2_passTicks_9 rfl dX2_passTicks_124 ?_
            refine lv_iconst (v := 2) hx hb dX2_passTicks_127 (by decide) ?_
            refine r_ald C h 1 rfl rfl k_2_24 dX2_passTicks_128 ?_
            refine lv_imul hx hb dX2_passTicks_129 ?_
            refine lv_iadd hx hb dX2_passTicks_130 ?_
            refine lv_topi (fun wt_32 ewt_32 => ?_)
            replace hf := nm_use hf ewt_32
            refine r_put C h 0 5 (ci := 2) (N := 6) (Cn := RX2) (T := TX2) (ty0 := tyX2) rfl rfl (by decide) in_X2_passTicks_X2 tyX2_ok nmX2 lk_X2_passTicks_46 rfl rfl rfl (Nat.le_of_ble_eq_true rfl) (wSt cI a0 a1 a2 a3 a4 a5 a6 a7 a8 nu_25 va qu_26 sc_27 lo_28 wt_32) rfl dX2_passTicks_131 (fun H locs h => ?_)
            refine lv_aload_n hx hb dX2_passTicks_134 rfl (lv_at hl 2 rfl) ?_
            refine r_get C h 0 0 (ci := 2) (N := 6) (Cn := RX2) (T := TX2) rfl rfl (by decide) in_X2_passTicks_X2 lk_X2_passTicks_9 rfl dX2_passTicks_135 ?_
            refine lv_iconst (v := 0) hx hb dX2_passTicks_138 (by decide) ?_
            refine lv_dup2_11 hx hb dX2_passTicks_139 rfl rfl ?_
            refine r_ald C h 1 rfl rfl k_0_24 dX2_passTicks_140 ?_
            refine lv_iload hx hb dX2_passTicks_141 (lv_at hl 0 rfl) ?_
            refine lv_iadd hx hb dX2_passTicks_143 ?_
            refine r_ast C h 1 rfl rfl k_0_24 (fun z__ => (wSt cI a0 a1 a2 a3 a4 a5 a6 a7 a8 z__ va qu_26 sc_27 lo_28 wt_32)) (fun _ => rfl) dX2_passTicks_144 (fun nu_33 enu_33 H locs h => ?_)
            replace hf := nm_use hf enu_33
            refine lv_iload_n hx hb dX2_passTicks_145 rfl (lv_at hl 4 rfl) ?_
            refine lv_iload hx hb dX2_passTicks_146 (lv_at hl 0 rfl) ?_
            refine lv_iadd hx hb dX2_passTicks_148 ?_
            refine lv_topi (fun x3_34 ex3_34 => ?_)
            replace hf := nm_use hf ex3_34
            refine lv_istore_n (lv' := [(3, .int x3_34), (5, .int x5_31), (4, .int x4_30), (0, .ref a0), (1, .int x1)]) hx hb dX2_passTicks_149 rfl hl (by decide) rfl (fun ls hl => ?_)
            refine lv_goto (tgt := 31) hx hb dX2_passTicks_150 (by decide) ?_
            exact ih nu_33 qu_26 sc_27 lo_28 wt_32 x1 x3_34 _ _ _ h (lv_sub hl [3, 4, 0] rfl) hf
  unfold fX2_passTicks at hf
  refine lv_iload_n hx hb dX2_passTicks_0 rfl (lv_at hl 1 rfl) ?_
  refine lv_iconst (v := 1) hx hb dX2_passTicks_1 (by decide) ?_
  refine lv_sipush (v := 999) hx hb dX2_passTicks_2 (by decide) ?_
  obtain ⟨r_1, hq_2, hf⟩ := ob1_use hf
  refine r_callSN C h (cw_X2_passTicks_X4_isWithin_50 C.hts C.nw) (rest := []) (c_X4_isWithin l G cI cC cZ X x1 (1 : Int32) (999 : Int32) r_1 hq_2) [] rfl rfl rfl rfl hl.1 rfl (Nat.le_of_ble_eq_true rfl) ⟨Nat.le_of_ble_eq_true rfl, Nat.le_of_ble_eq_true rfl⟩ (wSt cI a0 a1 a2 a3 a4 a5 a6 a7 a8 nu va qu sc lo wt) rfl rfl dX2_passTicks_5 (fun H locs h => ?_)
  refine lv_if_ne (tgt := 14) hx hb dX2_passTicks_8 (by decide) (fun hc => ?_) (fun hc => ?_)
  · replace hf := it_f hf hc
    refine lv_aload_n hx hb dX2_passTicks_14 rfl (lv_at hl 0 rfl) ?_
    refine r_get C h 0 0 (ci := 2) (N := 6) (Cn := RX2) (T := TX2) rfl rfl (by decide) in_X2_passTicks_X2 lk_X2_passTicks_9 rfl dX2_passTicks_15 ?_
    refine lv_iconst (v := 0) hx hb dX2_passTicks_18 (by decide) ?_
    refine r_ald C h 1 rfl rfl k_0_24 dX2_passTicks_19 ?_
    refine lv_iload_n hx hb dX2_passTicks_20 rfl (lv_at hl 2 rfl) ?_
    refine lv_iload_n hx hb dX2_passTicks_21 rfl (lv_at hl 1 rfl) ?_
    refine lv_isub hx hb dX2_passTicks_22 ?_
    refine lv_icmp_le (tgt := 29) hx hb dX2_passTicks_23 (by decide) (fun hc => ?_) (fun hc => ?_)
    · replace hf := it_t hf hc
      refine lv_iconst (v := 0) hx hb dX2_passTicks_29 (by decide) ?_
      refine lv_istore_n (lv' := [(3, .int 0), (0, .ref a0), (1, .int x1), (2, .int x2)]) hx hb dX2_passTicks_30 rfl hl (by decide) rfl (fun ls hl => ?_)
      exact cut_31 KF nu qu sc lo wt x1 0 _ _ _ h (lv_sub hl [1, 2, 0] rfl) hf
    · replace hf := it_f hf hc
      refine lv_bipush (v := (-4)) hx hb dX2_passTicks_26 (by decide) ?_
      cases hf
      exact r_iret C h hr hlocks dX2_passTicks_28
  · replace hf := it_t hf hc
    refine lv_bipush (v := (-2)) hx hb dX2_passTicks_11 (by decide) ?_
    cases hf
    exact r_iret C h hr hlocks dX2_passTicks_13
