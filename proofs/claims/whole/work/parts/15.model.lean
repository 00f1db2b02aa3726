def fX5_records_50 (now : Nat → Int32) (past : Nat → Int32) (kept : Int32) : Option ((Nat → Int32) × Int32) :=
  ob1 (fX5_lays 234 now 1404 past (0 : Int32) (234 * kept)) fun past_1 =>
  nm ((kept + 1)) fun kept_3 =>
  some (past_1, kept_3)

def fX5_records_11_b (rec : (Nat → Int32) → (Nat → Int32) → Int32 → Int32 → Option ((Nat → Int32) × Int32)) (now : Nat → Int32) (past : Nat → Int32) (kept : Int32) (x1 : Int32) : Option ((Nat → Int32) × Int32) :=
  (if 1170 ≤ x1 then
  nm ((kept - 1)) fun kept_1 =>
  fX5_records_50 now past kept_1
  else
  chk (x1 + 234) 1404 fun j_2 =>
  chk x1 1404 fun j_3 =>
  nm (upd past j_3 (past j_2)) fun past_4 =>
  nm (x1 + 1) fun x1_5 =>
  rec now past_4 kept x1_5)
def fX5_records_11 : Nat → (Nat → Int32) → (Nat → Int32) → Int32 → Int32 → Option ((Nat → Int32) × Int32)
  | 0 => fun _ _ _ _ => none
  | n + 1 => fX5_records_11_b (fX5_records_11 n)

/-- the mirror of X5_records -/
def fX5_records (now : Nat → Int32) (past : Nat → Int32) (kept : Int32) : Option ((Nat → Int32) × Int32) :=
  (if kept = 6 then
  fX5_records_11 KF now past kept 0
  else
  fX5_records_50 now past kept)

/-- the mirror of X5_undo -/
def fX5_undo (now : Nat → Int32) (past : Nat → Int32) (kept : Int32) : Option (Int32 × (Nat → Int32) × Int32) :=
  (if kept = 0 then
  some ((-5), now, kept)
  else
  nm ((kept - 1)) fun kept_1 =>
  ob1 (fX5_lays 1404 past 234 now (234 * kept_1) (0 : Int32)) fun now_2 =>
  some (kept_1, now_2, kept_1))

/-- the mirror of X5_save -/
def fX5_save (now : Nat → Int32) (slt : Nat → Int32) (held : Nat → Int32) (x1 : Int32) : Option (Int32 × (Nat → Int32) × (Nat → Int32)) :=
  ob1 (fX5_in x1 (0 : Int32) (1 : Int32)) fun r_1 =>
  (if r_1 = 0 then
  some ((-2), slt, held)
  else
  ob1 (fX5_lays 234 now 468 slt (0 : Int32) (234 * x1)) fun slt_3 =>
  chk x1 2 fun j_5 =>
  nm (upd held j_5 (vp_nar .boolean 1)) fun held_6 =>
  some ((now 0), slt_3, held_6))

/-- the mirror of X5_restore -/
def fX5_restore (now : Nat → Int32) (past : Nat → Int32) (kept : Int32) (slt : Nat → Int32) (held : Nat → Int32) (x1 : Int32) : Option (Int32 × (Nat → Int32) × (Nat → Int32) × Int32) :=
  ob1 (fX5_in x1 (0 : Int32) (1 : Int32)) fun r_1 =>
  (if r_1 = 0 then
  some ((-2), now, past, kept)
  else
  chk x1 2 fun j_3 =>
  (if (held j_3) = 0 then
  some ((-5), now, past, kept)
  else
  ob2 (fX5_records now past kept) fun past_4 kept_5 =>
  ob1 (fX5_lays 468 slt 234 now (234 * x1) (0 : Int32)) fun now_7 =>
  some ((now_7 0), now_7, past_4, kept_5)))

/-- the mirror of X5_changes -/
def fX5_changes (now : Nat → Int32) (x1 : Int32) (x2 : Int32) : Option (Int32 × (Nat → Int32)) :=
  chk x1 234 fun j_1 =>
  nm ((now j_1)) fun x3_2 =>
  chk x1 234 fun j_3 =>
  nm (upd now j_3 x2) fun now_4 =>
  some (x3_2, now_4)

def fX5_set_54 (now : Nat → Int32) (past : Nat → Int32) (kept : Int32) (x1 : Int32) (x2 : Int32) : Option (Int32 × (Nat → Int32) × (Nat → Int32) × Int32) :=
  ob2 (fX5_records now past kept) fun past_1 kept_2 =>
  ob2 (fX5_changes now (1 + x1) x2) fun r_4 now_5 =>
  some (r_4, now_5, past_1, kept_2)

/-- the mirror of X5_set -/
def fX5_set (now : Nat → Int32) (past : Nat → Int32) (kept : Int32) (x1 : Int32) (x2 : Int32) : Option (Int32 × (Nat → Int32) × (Nat → Int32) × Int32) :=
  ob1 (fX5_in x1 (0 : Int32) (7 : Int32)) fun r_1 =>
  (if r_1 = 0 then
  some ((-2), now, past, kept)
  else
  ob1 (fX5_isFor x1 x2) fun r_3 =>
  (if r_3 = 0 then
  some ((-2), now, past, kept)
  else
  (if x1 = 3 then
  (if (now 0) = 0 then
  (if x1 = 2 then
  (if (now 10) ≤ x2 then
  fX5_set_54 now past kept x1 x2
  else
  some ((-5), now, past, kept))
  else
  fX5_set_54 now past kept x1 x2)
  else
  some ((-5), now, past, kept))
  else
  (if x1 = 2 then
  (if (now 10) ≤ x2 then
  fX5_set_54 now past kept x1 x2
  else
  some ((-5), now, past, kept))
  else
  fX5_set_54 now past kept x1 x2))))

/-- the mirror of X5_value -/
def fX5_value (now : Nat → Int32) (past : Nat → Int32) (kept : Int32) (x1 : Int32) (x2 : Int32) : Option (Int32 × (Nat → Int32) × (Nat → Int32) × Int32) :=
  ob1 (fX5_mayTell x1 x2) fun r_1 =>
  (if r_1 = 0 then
  ob2 (fX5_records now past kept) fun past_3 kept_4 =>
  ob2 (fX5_changes now (26 + x1) x2) fun r_6 now_7 =>
  some (r_6, now_7, past_3, kept_4)
  else
  some (r_1, now, past, kept))

/-- the mirror of X5_slips -/
def fX5_slips (now : Nat → Int32) (x1 : Int32) (x2 : Int32) : Option (Int32 × (Nat → Int32)) :=
  nm ((18 + x1)) fun y_1 =>
  chk y_1 234 fun j_2 =>
  chk y_1 234 fun j_3 =>
  nm (upd now j_3 ((now j_2) + x2)) fun now_4 =>
  chk (18 + x1) 234 fun j_5 =>
  some ((now_4 j_5), now_4)

/-- the mirror of X5_slip -/
def fX5_slip (now : Nat → Int32) (past : Nat → Int32) (kept : Int32) (x1 : Int32) (x2 : Int32) : Option (Int32 × (Nat → Int32) × (Nat → Int32) × Int32) :=
  ob1 (fX5_maySlip x1 x2) fun r_1 =>
  (if r_1 = 0 then
  ob2 (fX5_records now past kept) fun past_3 kept_4 =>
  ob2 (fX5_slips now x1 x2) fun r_6 now_7 =>
  some (r_6, now_7, past_3, kept_4)
  else
  some (r_1, now, past, kept))

/-- the mirror of X5_mayPass -/
def fX5_mayPass (now : Nat → Int32) (x1 : Int32) : Option (Int32) :=
  ob1 (fX5_in x1 (1 : Int32) (999 : Int32)) fun r_1 =>
  (if r_1 = 0 then
  some ((-2))
  else
  (if ((now 0) + x1) ≤ 99999 then
  some (0)
  else
  some ((-4))))

/-- the mirror of X5_pass -/
def fX5_pass (now : Nat → Int32) (past : Nat → Int32) (kept : Int32) (x1 : Int32) : Option (Int32 × (Nat → Int32) × (Nat → Int32) × Int32) :=
  ob1 (fX5_mayPass now x1) fun r_1 =>
  (if r_1 = 0 then
  ob2 (fX5_records now past kept) fun past_3 kept_4 =>
  ob1 (fX5_passes now x1) fun now_6 =>
  some ((now_6 0), now_6, past_3, kept_4)
  else
  some (r_1, now, past, kept))

def fX5_flush_12_b (rec : (Nat → Int32) → (Nat → Int32) → Int32 → Int32 → Option (Int32 × (Nat → Int32) × (Nat → Int32) × Int32)) (now : Nat → Int32) (past : Nat → Int32) (kept : Int32) (x1 : Int32) : Option (Int32 × (Nat → Int32) × (Nat → Int32) × Int32) :=
  (if (now 10) ≤ 0 then
  some (x1, now, past, kept)
  else
  ob1 (fX5_loses now (0 : Int32) (2 : Int32)) fun now_1 =>
  rec now_1 past kept x1)
def fX5_flush_12 : Nat → (Nat → Int32) → (Nat → Int32) → Int32 → Int32 → Option (Int32 × (Nat → Int32) × (Nat → Int32) × Int32)
  | 0 => fun _ _ _ _ => none
  | n + 1 => fX5_flush_12_b (fX5_flush_12 n)

/-- the mirror of X5_flush -/
def fX5_flush (now : Nat → Int32) (past : Nat → Int32) (kept : Int32) : Option (Int32 × (Nat → Int32) × (Nat → Int32) × Int32) :=
  ob2 (fX5_records now past kept) fun past_1 kept_2 =>
  nm ((now 10)) fun x1_4 =>
  fX5_flush_12 KF now past_1 kept_2 x1_4

/-- the mirror of X5_waiting -/
def fX5_waiting (now : Nat → Int32) (x1 : Int32) (x2 : Int32) : Option (Int32) :=
  ob1 (fX5_in x1 (0 : Int32) ((now 10) - 1)) fun r_1 =>
  (if r_1 = 0 then
  some ((-1))
  else
  ob1 (fX5_in x2 (0 : Int32) (3 : Int32)) fun r_3 =>
  (if r_3 = 0 then
  some ((-2))
  else
  ob1 (fX5_of now x1 x2) fun r_5 =>
  some (r_5)))

/-- the mirror of X5_row -/
def fX5_row (now : Nat → Int32) (x1 : Int32) (x2 : Int32) : Option (Int32) :=
  ob1 (fX5_in x1 (0 : Int32) ((2 * (now 4)) - 1)) fun r_1 =>
  (if r_1 = 0 then
  some ((-1))
  else
  ob1 (fX5_in x2 (0 : Int32) (2 : Int32)) fun r_3 =>
  (if r_3 = 0 then
  some ((-2))
  else
  chk ((106 + (3 * x1)) + x2) 234 fun j_5 =>
  some ((now j_5))))

/-- the mirror of X5_ofMissing -/
def fX5_ofMissing (now : Nat → Int32) (x1 : Int32) (x2 : Int32) : Option (Int32) :=
  ob1 (fX5_in x1 (0 : Int32) ((now 24) - 1)) fun r_1 =>
  (if r_1 = 0 then
  some ((-1))
  else
  ob1 (fX5_in x2 (0 : Int32) (3 : Int32)) fun r_3 =>
  (if r_3 = 0 then
  some ((-2))
  else
  chk ((202 + (4 * x1)) + x2) 234 fun j_5 =>
  some ((now j_5))))

/-- the mirror of X5_count -/
def fX5_count (now : Nat → Int32) (kept : Int32) (mpl : Int32) (x1 : Int32) : Option (Int32) :=
  ob1 (fX5_in x1 (0 : Int32) (25 : Int32)) fun r_1 =>
  (if r_1 = 0 then
  some ((-2))
  else
  (if 16 ≤ x1 then
  (if 24 ≤ x1 then
  (if x1 = 24 then
  some (mpl)
  else
  some (kept))
  else
  chk ((1 + x1) - 16) 234 fun j_3 =>
  some ((now j_3)))
  else
  (if x1 = 0 then
  some ((now 0))
  else
  chk ((9 + x1) - 1) 234 fun j_4 =>
  some ((now j_4)))))

def fX5_shown_2_b (rec : (Nat → Int32) → Int32 → Option (Int32)) (now : Nat → Int32) (x1 : Int32) : Option (Int32) :=
  (if (2 * (now 4)) ≤ x1 then
  some (x1)
  else
  chk ((106 + (3 * x1)) + 1) 234 fun j_1 =>
  (if (now j_1) = (-6) then
  some (x1)
  else
  nm (x1 + 1) fun x1_2 =>
  rec now x1_2))
def fX5_shown_2 : Nat → (Nat → Int32) → Int32 → Option (Int32)
  | 0 => fun _ _ => none
  | n + 1 => fX5_shown_2_b (fX5_shown_2 n)

/-- the mirror of X5_shown -/
def fX5_shown (now : Nat → Int32) : Option (Int32) :=
  fX5_shown_2 KF now 0

/-- the mirror of X5_tries -/
def fX5_tries (now : Nat → Int32) (thn : Nat → Int32) : Option ((Nat → Int32)) :=
  ob1 (fX5_lays 234 now 234 thn (0 : Int32) (0 : Int32)) fun thn_1 =>
  some (thn_1)

/-- the mirror of X5_more -/
def fX5_more (now : Nat → Int32) (thn : Nat → Int32) (x1 : Int32) : Option (Int32) :=
  (if x1 = 0 then
  some (((thn 12) - (now 12)))
  else
  (if x1 = 1 then
  some (((thn 14) - (now 14)))
  else
  some (((thn 20) - (now 20)))))

/-- the mirror of X5_would -/
def fX5_would (now : Nat → Int32) (thn : Nat → Int32) (x1 : Int32) (x2 : Int32) : Option (Int32 × (Nat → Int32)) :=
  ob1 (fX5_areTicks x1) fun r_1 =>
  (if r_1 = 0 then
  some ((-2), thn)
  else
  ob1 (fX5_in x2 (0 : Int32) (2 : Int32)) fun r_3 =>
  (if r_3 = 0 then
  some ((-2), thn)
  else
  ob1 (fX5_tries now thn) fun thn_5 =>
  ob1 (fX5_passes thn_5 x1) fun thn_7 =>
  ob1 (fX5_more now thn_7 x2) fun r_9 =>
  some (r_9, thn_7)))

def fX5_leastRoom_33_b (rec : (Nat → Int32) → (Nat → Int32) → Int32 → Int32 → Option (Int32 × (Nat → Int32))) (now : Nat → Int32) (thn : Nat → Int32) (x1 : Int32) (x2 : Int32) : Option (Int32 × (Nat → Int32)) :=
  (if 16 < x2 then
  some ((-6), thn)
  else
  ob1 (fX5_tries now thn) fun thn_1 =>
  nm (upd thn_1 3 x2) fun thn_3 =>
  ob1 (fX5_passes thn_3 x1) fun thn_4 =>
  ob1 (fX5_more now thn_4 (0 : Int32)) fun r_6 =>
  (if r_6 = 0 then
  some (x2, thn_4)
  else
  nm (x2 + 1) fun x2_8 =>
  rec now thn_4 x1 x2_8))
def fX5_leastRoom_33 : Nat → (Nat → Int32) → (Nat → Int32) → Int32 → Int32 → Option (Int32 × (Nat → Int32))
  | 0 => fun _ _ _ _ => none
  | n + 1 => fX5_leastRoom_33_b (fX5_leastRoom_33 n)

/-- the mirror of X5_leastRoom -/
def fX5_leastRoom (now : Nat → Int32) (thn : Nat → Int32) (x1 : Int32) : Option (Int32 × (Nat → Int32)) :=
  ob1 (fX5_areTicks x1) fun r_1 =>
  (if r_1 = 0 then
  some ((-2), thn)
  else
  (if (now 10) ≤ 1 then
  fX5_leastRoom_33 KF now thn x1 1
  else
  nm ((now 10)) fun x2_3 =>
  fX5_leastRoom_33 KF now thn x1 x2_3))

def fX5_bestOut_27_b (rec : (Nat → Int32) → (Nat → Int32) → Int32 → Int32 → Int32 → Int32 → Int32 → Option (Int32 × (Nat → Int32))) (now : Nat → Int32) (thn : Nat → Int32) (x1 : Int32) (x2 : Int32) (x3 : Int32) (x4 : Int32) (x5 : Int32) : Option (Int32 × (Nat → Int32)) :=
  (if 99 < x5 then
  (if x2 = 0 then
  some (x3, thn)
  else
  some (x4, thn))
  else
  ob1 (fX5_tries now thn) fun thn_1 =>
  nm (upd thn_1 2 x5) fun thn_3 =>
  ob1 (fX5_passes thn_3 x1) fun thn_4 =>
  ob1 (fX5_more now thn_4 (0 : Int32)) fun r_6 =>
  ob1 (fX5_more now thn_4 (1 : Int32)) fun r_8 =>
  nm ((r_6 + r_8)) fun x6_10 =>
  (if x3 = 0 then
  nm (x5 + 1) fun x5_11 =>
  rec now thn_4 x1 x2 x5 x6_10 x5_11
  else
  (if x4 ≤ x6_10 then
  nm (x5 + 1) fun x5_12 =>
  rec now thn_4 x1 x2 x3 x4 x5_12
  else
  nm (x5 + 1) fun x5_13 =>
  rec now thn_4 x1 x2 x5 x6_10 x5_13)))
def fX5_bestOut_27 : Nat → (Nat → Int32) → (Nat → Int32) → Int32 → Int32 → Int32 → Int32 → Int32 → Option (Int32 × (Nat → Int32))
  | 0 => fun _ _ _ _ _ _ _ => none
  | n + 1 => fX5_bestOut_27_b (fX5_bestOut_27 n)

/-- the mirror of X5_bestOut -/
def fX5_bestOut (now : Nat → Int32) (thn : Nat → Int32) (x1 : Int32) (x2 : Int32) : Option (Int32 × (Nat → Int32)) :=
  ob1 (fX5_areTicks x1) fun r_1 =>
  (if r_1 = 0 then
  some ((-2), thn)
  else
  ob1 (fX5_in x2 (0 : Int32) (1 : Int32)) fun r_3 =>
  (if r_3 = 0 then
  some ((-2), thn)
  else
  fX5_bestOut_27 KF now thn x1 x2 0 0 1))

def fX5_put_30_b (rec : (Nat → Int32) → Int32 → Int64 → Int32 → Option (Int32 × (Nat → Int32) × Int32)) (mpad : Nat → Int32) (mpl : Int32) (x1 : Int64) (x4 : Int32) : Option (Int32 × (Nat → Int32) × Int32) :=
  (if x4 < 0 then
  some (mpl, mpad, mpl)
  else
  ob1 (fX5_byteOf x1 x4) fun r_1 =>
  chk mpl 80 fun j_3 =>
  nm (upd mpad j_3 r_1) fun mpad_4 =>
  nm ((mpl + 1)) fun mpl_5 =>
  nm (x4 + (-1)) fun x4_6 =>
  rec mpad_4 mpl_5 x1 x4_6)
def fX5_put_30 : Nat → (Nat → Int32) → Int32 → Int64 → Int32 → Option (Int32 × (Nat → Int32) × Int32)
  | 0 => fun _ _ _ _ => none
  | n + 1 => fX5_put_30_b (fX5_put_30 n)

/-- the mirror of X5_put -/
def fX5_put (mpad : Nat → Int32) (mpl : Int32) (x1 : Int64) : Option (Int32 × (Nat → Int32) × Int32) :=
  ob1 (fX5_toldBy x1) fun r_1 =>
  (if 0 ≤ r_1 then
  (if (mpl + r_1) ≤ 80 then
  nm ((r_1 - 1)) fun x4_3 =>
  fX5_put_30 KF mpad mpl x1 x4_3
  else
  some ((-4), mpad, mpl))
  else
  some (r_1, mpad, mpl))

/-- the mirror of X5_wipe -/
def fX5_wipe (mpl : Int32) : Option (Int32 × Int32) :=
  some (mpl, 0)

/-- the mirror of X5_isAt -/
def fX5_isAt (mpad : Nat → Int32) (mpl : Int32) (mat : Int32) (x1 : Int32) (x2 : Int32) : Option (Int32) :=
  (if mpl ≤ mat then
  some (0)
  else
  chk mat 80 fun j_1 =>
  ob1 (fX5_in (mpad j_1) x1 x2) fun r_2 =>
  (if r_2 = 0 then
  some (0)
  else
  some (1)))

/-- the mirror of X5_isSign -/
def fX5_isSign (mpad : Nat → Int32) (mpl : Int32) (mat : Int32) (x1 : Int32) : Option (Int32 × Int32) :=
  ob1 (fX5_isAt mpad mpl mat x1 x1) fun r_1 =>
  (if r_1 = 0 then
  nm ((mat + 0)) fun mat_3 =>
  nd (r_1 = 0 ∨ r_1 = 1) <|
  some (r_1, mat_3)
  else
  nm ((mat + 1)) fun mat_4 =>
  nd (r_1 = 0 ∨ r_1 = 1) <|
  some (r_1, mat_4))

def fX5_isNumber_36_b (rec : (Nat → Int32) → Int32 → Int32 → (Nat → Int32) → Int32 → Int32 → Int32 → Option (Int32 × Int32 × (Nat → Int32))) (mpad : Nat → Int32) (mpl : Int32) (mat : Int32) (ords : Nat → Int32) (ordn : Int32) (x1 : Int32) (x2 : Int32) : Option (Int32 × Int32 × (Nat → Int32)) :=
  (if x2 ≤ 0 then
  chk ((3 * ordn) + x1) 123 fun j_1 =>
  nm (upd ords j_1 x2) fun ords_2 =>
  some (1, mat, ords_2)
  else
  (if 100 ≤ x2 then
  chk ((3 * ordn) + x1) 123 fun j_3 =>
  nm (upd ords j_3 x2) fun ords_4 =>
  some (1, mat, ords_4)
  else
  ob1 (fX5_isAt mpad mpl mat (48 : Int32) (57 : Int32)) fun r_5 =>
  (if r_5 = 0 then
  chk ((3 * ordn) + x1) 123 fun j_7 =>
  nm (upd ords j_7 x2) fun ords_8 =>
  some (1, mat, ords_8)
  else
  chk mat 80 fun j_9 =>
  nm ((((10 * x2) + (mpad j_9)) - 48)) fun x2_10 =>
  nm ((mat + 1)) fun mat_11 =>
  rec mpad mpl mat_11 ords ordn x1 x2_10)))
def fX5_isNumber_36 : Nat → (Nat → Int32) → Int32 → Int32 → (Nat → Int32) → Int32 → Int32 → Int32 → Option (Int32 × Int32 × (Nat → Int32))
  | 0 => fun _ _ _ _ _ _ _ => none
  | n + 1 => fX5_isNumber_36_b (fX5_isNumber_36 n)

/-- the mirror of X5_isNumber -/
def fX5_isNumber (mpad : Nat → Int32) (mpl : Int32) (mat : Int32) (ords : Nat → Int32) (ordn : Int32) (x1 : Int32) : Option (Int32 × Int32 × (Nat → Int32)) :=
  ob1 (fX5_isAt mpad mpl mat (48 : Int32) (57 : Int32)) fun r_1 =>
  (if r_1 = 0 then
  some (0, mat, ords)
  else
  chk mat 80 fun j_3 =>
  nm (((mpad j_3) - 48)) fun x2_4 =>
  nm ((mat + 1)) fun mat_5 =>
  fX5_isNumber_36 KF mpad mpl mat_5 ords ordn x1 x2_4)

/-- the mirror of X5_isOrder -/
def fX5_isOrder (mpad : Nat → Int32) (mpl : Int32) (mat : Int32) (ords : Nat → Int32) (ordn : Int32) : Option (Int32 × Int32 × (Nat → Int32)) :=
  (if mpl ≤ mat then
  chk (3 * ordn) 123 fun j_1 =>
  nm (upd ords j_1 0) fun ords_2 =>
  some (0, mat, ords_2)
  else
  chk mat 80 fun j_3 =>
  nm ((mpad j_3)) fun x1_4 =>
  chk (3 * ordn) 123 fun j_5 =>
  nm (upd ords j_5 x1_4) fun ords_6 =>
  (if x1_4 = 60 then
  nm ((mat + 1)) fun mat_7 =>
  ob3 (fX5_isNumber mpad mpl mat_7 ords_6 ordn (1 : Int32)) fun r_8 mat_9 ords_10 =>
  nd (r_8 = 0 ∨ r_8 = 1) <|
  some (r_8, mat_9, ords_10)
  else
  (if x1_4 = 62 then
  nm ((mat + 1)) fun mat_12 =>
  ob3 (fX5_isNumber mpad mpl mat_12 ords_6 ordn (1 : Int32)) fun r_13 mat_14 ords_15 =>
  nd (r_13 = 0 ∨ r_13 = 1) <|
  some (r_13, mat_14, ords_15)
  else
  (if x1_4 = 105 then
  nm ((mat + 1)) fun mat_17 =>
  ob3 (fX5_isNumber mpad mpl mat_17 ords_6 ordn (1 : Int32)) fun r_18 mat_19 ords_20 =>
  nd (r_18 = 0 ∨ r_18 = 1) <|
  some (r_18, mat_19, ords_20)
  else
  (if x1_4 = 111 then
  nm ((mat + 1)) fun mat_22 =>
  ob3 (fX5_isNumber mpad mpl mat_22 ords_6 ordn (1 : Int32)) fun r_23 mat_24 ords_25 =>
  nd (r_23 = 0 ∨ r_23 = 1) <|
  some (r_23, mat_24, ords_25)
  else
  (if x1_4 = 116 then
  nm ((mat + 1)) fun mat_27 =>
  ob3 (fX5_isNumber mpad mpl mat_27 ords_6 ordn (1 : Int32)) fun r_28 mat_29 ords_30 =>
  nd (r_28 = 0 ∨ r_28 = 1) <|
  some (r_28, mat_29, ords_30)
  else
  (if x1_4 = 118 then
  nm ((mat + 1)) fun mat_32 =>
  ob3 (fX5_isNumber mpad mpl mat_32 ords_6 ordn (1 : Int32)) fun r_33 mat_34 ords_35 =>
  (if r_33 = 0 then
  some (0, mat_34, ords_35)
  else
  ob2 (fX5_isSign mpad mpl mat_34 (61 : Int32)) fun r_37 mat_38 =>
  (if r_37 = 0 then
  some (0, mat_38, ords_35)
  else
  ob3 (fX5_isNumber mpad mpl mat_38 ords_35 ordn (2 : Int32)) fun r_40 mat_41 ords_42 =>
  (if r_40 = 0 then
  some (0, mat_41, ords_42)
  else
  some (1, mat_41, ords_42))))
  else
  some (0, mat, ords_6))))))))

def fX5_isText_12_b (rec : (Nat → Int32) → Int32 → Int32 → (Nat → Int32) → Int32 → Int32 → Option (Int32 × Int32 × (Nat → Int32) × Int32)) (mpad : Nat → Int32) (mpl : Int32) (mat : Int32) (ords : Nat → Int32) (ordn : Int32) (x1 : Int32) : Option (Int32 × Int32 × (Nat → Int32) × Int32) :=
  (if x1 = 0 then
  (if mat = mpl then
  some (1, mat, ords, ordn)
  else
  some (0, mat, ords, ordn))
  else
  ob3 (fX5_isOrder mpad mpl mat ords ordn) fun r_1 mat_2 ords_3 =>
  (if r_1 = 0 then
  some (0, mat_2, ords_3, ordn)
  else
  nm ((ordn + 1)) fun ordn_5 =>
  ob2 (fX5_isSign mpad mpl mat_2 (59 : Int32)) fun r_6 mat_7 =>
  rec mpad mpl mat_7 ords_3 ordn_5 r_6))
def fX5_isText_12 : Nat → (Nat → Int32) → Int32 → Int32 → (Nat → Int32) → Int32 → Int32 → Option (Int32 × Int32 × (Nat → Int32) × Int32)
  | 0 => fun _ _ _ _ _ _ => none
  | n + 1 => fX5_isText_12_b (fX5_isText_12 n)

/-- the mirror of X5_isText -/
def fX5_isText (mpad : Nat → Int32) (mpl : Int32) (mat : Int32) (ords : Nat → Int32) (ordn : Int32) : Option (Int32 × Int32 × (Nat → Int32) × Int32) :=
  fX5_isText_12 KF mpad mpl 0 ords 0 1

/-- the mirror of X5_fault -/
def fX5_fault (mpad : Nat → Int32) (mpl : Int32) (mat : Int32) (ords : Nat → Int32) (ordn : Int32) : Option (Int32 × Int32 × (Nat → Int32) × Int32) :=
  ob4 (fX5_isText mpad mpl mat ords ordn) fun r_1 mat_2 ords_3 ordn_4 =>
  (if r_1 = 0 then
  some (mat_2, mat_2, ords_3, ordn_4)
  else
  some ((-6), mat_2, ords_3, ordn_4))

/-- the mirror of X5_mayDo -/
def fX5_mayDo (now : Nat → Int32) (x1 : Int32) (x2 : Int32) (x3 : Int32) : Option (Int32) :=
  (if x1 = 105 then
  (if x1 = 105 then
  ob1 (fX5_isFor (0 : Int32) x2) fun r_3 =>
  (if r_3 = 0 then
  some ((-2))
  else
  some (0))
  else
  ob1 (fX5_isFor (1 : Int32) x2) fun r_1 =>
  (if r_1 = 0 then
  some ((-2))
  else
  some (0)))
  else
  (if x1 = 111 then
  (if x1 = 105 then
  ob1 (fX5_isFor (0 : Int32) x2) fun r_7 =>
  (if r_7 = 0 then
  some ((-2))
  else
  some (0))
  else
  ob1 (fX5_isFor (1 : Int32) x2) fun r_5 =>
  (if r_5 = 0 then
  some ((-2))
  else
  some (0)))
  else
  (if x1 = 116 then
  ob1 (fX5_mayPass now x2) fun r_9 =>
  some (r_9)
  else
  (if x1 = 118 then
  ob1 (fX5_mayTell x2 x3) fun r_11 =>
  some (r_11)
  else
  ob1 (fX5_maySlip (0 : Int32) x2) fun r_13 =>
  some (r_13)))))

/-- the mirror of X5_does -/
def fX5_does (now : Nat → Int32) (ords : Nat → Int32) (x1 : Int32) : Option (Int32 × (Nat → Int32)) :=
  chk (3 * x1) 123 fun j_1 =>
  nm ((ords j_1)) fun x2_2 =>
  chk ((3 * x1) + 1) 123 fun j_3 =>
  nm ((ords j_3)) fun x3_4 =>
  chk ((3 * x1) + 2) 123 fun j_5 =>
  nm ((ords j_5)) fun x4_6 =>
  ob1 (fX5_mayDo now x2_2 x3_4 x4_6) fun r_7 =>
  (if r_7 = 0 then
  (if x2_2 = 105 then
  (if x2_2 = 105 then
  ob2 (fX5_changes now ((1 : Int32) + 0) x3_4) fun r_12 now_13 =>
  some (1, now_13)
  else
  ob2 (fX5_changes now ((1 : Int32) + 1) x3_4) fun r_9 now_10 =>
  some (1, now_10))
  else
  (if x2_2 = 111 then
  (if x2_2 = 105 then
  ob2 (fX5_changes now ((1 : Int32) + 0) x3_4) fun r_18 now_19 =>
  some (1, now_19)
  else
  ob2 (fX5_changes now ((1 : Int32) + 1) x3_4) fun r_15 now_16 =>
  some (1, now_16))
  else
  (if x2_2 = 116 then
  ob1 (fX5_passes now x3_4) fun now_21 =>
  some (1, now_21)
  else
  (if x2_2 = 118 then
  ob2 (fX5_changes now (26 + x3_4) x4_6) fun r_23 now_24 =>
  some (1, now_24)
  else
  (if x2_2 = 60 then
  ob2 (fX5_slips now (0 : Int32) x3_4) fun r_29 now_30 =>
  some (1, now_30)
  else
  ob2 (fX5_slips now (1 : Int32) x3_4) fun r_26 now_27 =>
  some (1, now_27))))))
  else
  some (0, now))

def fX5_carryOut_21_b (rec : (Nat → Int32) → (Nat → Int32) → Int32 → (Nat → Int32) → Int32 → Int32 → (Nat → Int32) → Int32 → Int32 → Option (Int32 × (Nat → Int32) × (Nat → Int32) × Int32 × Int32 × Int32 × (Nat → Int32) × Int32)) (now : Nat → Int32) (past : Nat → Int32) (kept : Int32) (mpad : Nat → Int32) (mpl : Int32) (mat : Int32) (ords : Nat → Int32) (ordn : Int32) (x1 : Int32) : Option (Int32 × (Nat → Int32) × (Nat → Int32) × Int32 × Int32 × Int32 × (Nat → Int32) × Int32) :=
  (if ordn ≤ x1 then
  some (x1, now, past, kept, mpl, mat, ords, ordn)
  else
  ob2 (fX5_does now ords x1) fun r_1 now_2 =>
  (if r_1 = 0 then
  some (x1, now_2, past, kept, mpl, mat, ords, ordn)
  else
  nm (x1 + 1) fun x1_4 =>
  rec now_2 past kept mpad mpl mat ords ordn x1_4))
def fX5_carryOut_21 : Nat → (Nat → Int32) → (Nat → Int32) → Int32 → (Nat → Int32) → Int32 → Int32 → (Nat → Int32) → Int32 → Int32 → Option (Int32 × (Nat → Int32) × (Nat → Int32) × Int32 × Int32 × Int32 × (Nat → Int32) × Int32)
  | 0 => fun _ _ _ _ _ _ _ _ _ => none
  | n + 1 => fX5_carryOut_21_b (fX5_carryOut_21 n)

/-- the mirror of X5_carryOut -/
def fX5_carryOut (now : Nat → Int32) (past : Nat → Int32) (kept : Int32) (mpad : Nat → Int32) (mpl : Int32) (mat : Int32) (ords : Nat → Int32) (ordn : Int32) : Option (Int32 × (Nat → Int32) × (Nat → Int32) × Int32 × Int32 × Int32 × (Nat → Int32) × Int32) :=
  ob4 (fX5_isText mpad mpl mat ords ordn) fun r_1 mat_2 ords_3 ordn_4 =>
  (if r_1 = 0 then
  some ((-3), now, past, kept, mpl, mat_2, ords_3, ordn_4)
  else
  ob2 (fX5_records now past kept) fun past_6 kept_7 =>
  fX5_carryOut_21 KF now past_6 kept_7 mpad 0 mat_2 ords_3 ordn_4 0)

def rm_X5_records : Room := { frames := 1, cells := 0, slots := 0, locals := 24 }
set_option maxRecDepth 20000 in
theorem lk_X5_records_32 : Cond.fieldLink RX5 32 "LineDoublerModel" "kept" "I" ∈ wsX5_records := List.mem_of_getElem? (i := 1) (by decide +kernel)
set_option maxRecDepth 20000 in
theorem lk_X5_records_7 : Cond.fieldLink RX5 7 "LineDoublerModel" "now" "[I" ∈ wsX5_records := List.mem_of_getElem? (i := 3) (by decide +kernel)
set_option maxRecDepth 20000 in
theorem lk_X5_records_16 : Cond.fieldLink RX5 16 "LineDoublerModel" "past" "[I" ∈ wsX5_records := List.mem_of_getElem? (i := 2) (by decide +kernel)
set_option maxRecDepth 20000 in
theorem in_X5_records_X5 : ∀ x ∈ wsX50, x ∈ wsX5_records := mem_r _ [8, 9, 10, 11, 12, 13, 14, 15, 16, 17, 18] (by decide +kernel)
set_option maxRecDepth 20000 in
theorem cw_X5_records_X5_lays_36 {s : State} {args : Array Value} (hts : ∀ w ∈ wsX5_records, w.before args s = true) : CallB rm_X5_records s args RX5 36 yX5_lays cX5_lays 5 none wsX5_lays rm_X5_lays 0 0 4 ∧ (Cond.static yX5_lays).before args s = true :=
  va_cwS 4 hts gX5_records_X5_lays rfl rfl rfl (by decide +kernel) ⟨Nat.le_of_ble_eq_true rfl, Nat.le_of_ble_eq_true rfl⟩
set_option maxHeartbeats 4000000 in
set_option maxRecDepth 100000 in
theorem c_X5_records (l : Launch) (G : va_G) (cI cC cZ : ClassId) (X : List (ClassId × FieldType)) (m0 m1 m2 m3 m4 m5 m6 m7 : Nat) (now : Nat → Int32) (thn : Nat → Int32) (past : Nat → Int32) (kept : Int32) (slt : Nat → Int32) (held : Nat → Int32) (mpad : Nat → Int32) (mpl : Int32) (mat : Int32) (ords : Nat → Int32) (ordn : Int32) (past' : Nat → Int32) (kept' : Int32) (hf : fX5_records now past kept = some (past', kept')) : CT l yX5_records wsX5_records rm_X5_records G (TY cI cC cZ X) [.ref m0] (wMd cI cZ m0 m1 m2 m3 m4 m5 m6 m7 now thn past kept slt held mpad mpl mat ords ordn) none (wMd cI cZ m0 m1 m2 m3 m4 m5 m6 m7 now thn past' kept' slt held mpad mpl mat ords ordn) := by
  refine CT.of (cc := cX5_records) (maxL := 2) (ret := none) RX5 rfl (by decide) rfl (Nat.le_of_ble_eq_true rfl) ?_
  intro p e s m args below meth c A ls C hr hlocks hnm h hl
  have hx := C.hx
  have hb := C.hb
  have hl : lv_has ls 2 [(0, .ref m0)] := hl
  have cut_50 : ∀ (past : Nat → Int32) (kept : Int32) (H : Heap) (locs : List Loc) (ls : Array Slot), Hx s G A (wMd cI cZ m0 m1 m2 m3 m4 m5 m6 m7 now thn past kept slt held mpad mpl mat ords ordn) H locs → lv_has ls 2 [(0, .ref m0)] → fX5_records_50 now past kept = some (past', kept') → W p l e rm_X5_records s m args below meth c H locs 0 0 (MQ below (Qx G none (wMd cI cZ m0 m1 m2 m3 m4 m5 m6 m7 now thn past' kept' slt held mpad mpl mat ords ordn) A) args s 0 0 A) (F0 m 50 ls []) := by
    intro past kept H locs ls h hl hf
    unfold fX5_records_50 at hf
    refine lv_aload_n hx hb dX5_records_50 rfl (lv_at hl 0 rfl) ?_
    refine r_get C h 0 0 (ci := 5) (N := 11) (Cn := RX5) (T := TX5) rfl rfl (by decide) in_X5_records_X5 lk_X5_records_7 rfl dX5_records_51 ?_
    refine lv_iconst (v := 0) hx hb dX5_records_54 (by decide) ?_
    refine lv_aload_n hx hb dX5_records_55 rfl (lv_at hl 0 rfl) ?_
    refine r_get C h 0 2 (ci := 5) (N := 11) (Cn := RX5) (T := TX5) rfl rfl (by decide) in_X5_records_X5 lk_X5_records_16 rfl dX5_records_56 ?_
    refine lv_sipush (v := 234) hx hb dX5_records_59 (by decide) ?_
    refine lv_aload_n hx hb dX5_records_62 rfl (lv_at hl 0 rfl) ?_
    refine r_get C h 0 3 (ci := 5) (N := 11) (Cn := RX5) (T := TX5) rfl rfl (by decide) in_X5_records_X5 lk_X5_records_32 rfl dX5_records_63 ?_
    refine lv_imul hx hb dX5_records_66 ?_
    obtain ⟨past_1, hq_2, hf⟩ := ob1_use hf
    refine r_callS C h (cw_X5_records_X5_lays_36 C.hts) (rest := []) (c_X5_lays l G cI cC cZ X m1 m3 234 now 1404 past (0 : Int32) (234 * kept) past_1 hq_2) [1, 3] rfl rfl rfl rfl hl.1 rfl (Nat.le_of_ble_eq_true rfl) ⟨Nat.le_of_ble_eq_true rfl, Nat.le_of_ble_eq_true rfl⟩ (wMd cI cZ m0 m1 m2 m3 m4 m5 m6 m7 now thn past_1 kept slt held mpad mpl mat ords ordn) rfl rfl dX5_records_67 (fun H locs h => ?_)
    refine lv_aload_n hx hb dX5_records_70 rfl (lv_at hl 0 rfl) ?_
    refine lv_dup hx hb dX5_records_71 rfl ?_
    refine r_get C h 0 3 (ci := 5) (N := 11) (Cn := RX5) (T := TX5) rfl rfl (by decide) in_X5_records_X5 lk_X5_records_32 rfl dX5_records_72 ?_
    refine lv_iconst (v := 1) hx hb dX5_records_75 (by decide) ?_
    refine lv_iadd hx hb dX5_records_76 ?_
    refine lv_topi (fun kept_3 ekept_3 => ?_)
    replace hf := nm_use hf ekept_3
    refine r_put C h 0 3 (ci := 5) (N := 11) (Cn := RX5) (T := TX5) (ty0 := tyX5) rfl rfl (by decide) in_X5_records_X5 tyX5_ok nmX5 lk_X5_records_32 rfl rfl rfl (Nat.le_of_ble_eq_true rfl) (wMd cI cZ m0 m1 m2 m3 m4 m5 m6 m7 now thn past_1 kept_3 slt held mpad mpl mat ords ordn) rfl dX5_records_77 (fun H locs h => ?_)
    cases hf
    exact r_vret C h hr hlocks dX5_records_80
  have cut_11 : ∀ (n : Nat) (past : Nat → Int32) (kept : Int32) (x1 : Int32) (H : Heap) (locs : List Loc) (ls : Array Slot), Hx s G A (wMd cI cZ m0 m1 m2 m3 m4 m5 m6 m7 now thn past kept slt held mpad mpl mat ords ordn) H locs → lv_has ls 2 [(0, .ref m0), (1, .int x1)] → fX5_records_11 n now past kept x1 = some (past', kept') → W p l e rm_X5_records s m args below meth c H locs 0 0 (MQ below (Qx G none (wMd cI cZ m0 m1 m2 m3 m4 m5 m6 m7 now thn past' kept' slt held mpad mpl mat ords ordn) A) args s 0 0 A) (F0 m 11 ls []) := by
    intro n
    induction n with
    | zero =>
      intro past kept x1 H locs ls h hl hf
      exact (nn_some _ hf).elim
    | succ n ih =>
      intro past kept x1 H locs ls h hl hf
      have hf : fX5_records_11_b (fX5_records_11 n) now past kept x1 = some (past', kept') := hf
      unfold fX5_records_11_b at hf
      refine lv_iload_n hx hb dX5_records_11 rfl (lv_at hl 1 rfl) ?_
      refine lv_sipush (v := 1170) hx hb dX5_records_12 (by decide) ?_
      refine lv_icmp_ge (tgt := 40) hx hb dX5_records_15 (by decide) (fun hc => ?_) (fun hc => ?_)
      · replace hf := it_t hf hc
        refine lv_aload_n hx hb dX5_records_40 rfl (lv_at hl 0 rfl) ?_
        refine lv_dup hx hb dX5_records_41 rfl ?_
        refine r_get C h 0 3 (ci := 5) (N := 11) (Cn := RX5) (T := TX5) rfl rfl (by decide) in_X5_records_X5 lk_X5_records_32 rfl dX5_records_42 ?_
        refine lv_iconst (v := 1) hx hb dX5_records_45 (by decide) ?_
        refine lv_isub hx hb dX5_records_46 ?_
        refine lv_topi (fun kept_1 ekept_1 => ?_)
        replace hf := nm_use hf ekept_1
        refine r_put C h 0 3 (ci := 5) (N := 11) (Cn := RX5) (T := TX5) (ty0 := tyX5) rfl rfl (by decide) in_X5_records_X5 tyX5_ok nmX5 lk_X5_records_32 rfl rfl rfl (Nat.le_of_ble_eq_true rfl) (wMd cI cZ m0 m1 m2 m3 m4 m5 m6 m7 now thn past kept_1 slt held mpad mpl mat ords ordn) rfl dX5_records_47 (fun H locs h => ?_)
        exact cut_50 past kept_1 _ _ _ h (lv_sub hl [0] rfl) hf
      · replace hf := it_f hf hc
        refine lv_aload_n hx hb dX5_records_18 rfl (lv_at hl 0 rfl) ?_
        refine r_get C h 0 2 (ci := 5) (N := 11) (Cn := RX5) (T := TX5) rfl rfl (by decide) in_X5_records_X5 lk_X5_records_16 rfl dX5_records_19 ?_
        refine lv_iload_n hx hb dX5_records_22 rfl (lv_at hl 1 rfl) ?_
        refine lv_aload_n hx hb dX5_records_23 rfl (lv_at hl 0 rfl) ?_
        refine r_get C h 0 2 (ci := 5) (N := 11) (Cn := RX5) (T := TX5) rfl rfl (by decide) in_X5_records_X5 lk_X5_records_16 rfl dX5_records_24 ?_
        refine lv_iload_n hx hb dX5_records_27 rfl (lv_at hl 1 rfl) ?_
        refine lv_sipush (v := 234) hx hb dX5_records_28 (by decide) ?_
        refine lv_iadd hx hb dX5_records_31 ?_
        obtain ⟨j_2, hj_2, hf⟩ := chk_use hf
        refine r_ald C h 3 rfl rfl hj_2 dX5_records_32 ?_
        obtain ⟨j_3, hj_3, hf⟩ := chk_use hf
        refine r_ast C h 3 rfl rfl hj_3 (fun z__ => (wMd cI cZ m0 m1 m2 m3 m4 m5 m6 m7 now thn z__ kept slt held mpad mpl mat ords ordn)) (fun _ => rfl) dX5_records_33 (fun past_4 epast_4 H locs h => ?_)
        replace hf := nm_use hf epast_4
        obtain ⟨x1_5, ex1_5⟩ : ∃ y : Int32, y = x1 + 1 := ⟨_, rfl⟩
        replace hf := nm_use hf ex1_5
        refine lv_iinc (v := x1_5) (lv' := [(1, .int x1_5), (0, .ref m0)]) hx hb dX5_records_34 hl (k := 1) rfl (by rw [ex1_5]; rfl) (by decide) rfl (fun ls hl => ?_)
        refine lv_goto (tgt := 11) hx hb dX5_records_37 (by decide) ?_
        exact ih past_4 kept x1_5 _ _ _ h (lv_sub hl [1, 0] rfl) hf
  unfold fX5_records at hf
  refine lv_aload_n hx hb dX5_records_0 rfl (lv_at hl 0 rfl) ?_
  refine r_get C h 0 3 (ci := 5) (N := 11) (Cn := RX5) (T := TX5) rfl rfl (by decide) in_X5_records_X5 lk_X5_records_32 rfl dX5_records_1 ?_
  refine lv_bipush (v := 6) hx hb dX5_records_4 (by decide) ?_
  refine lv_icmp_ne (tgt := 50) hx hb dX5_records_6 (by decide) (fun hc => ?_) (fun hc => ?_)
  · replace hf := it_f hf hc
    exact cut_50 past kept _ _ _ h (lv_sub hl [0] rfl) hf
  · replace hf := it_t hf hc
    refine lv_iconst (v := 0) hx hb dX5_records_9 (by decide) ?_
    refine lv_istore_n (lv' := [(1, .int 0), (0, .ref m0)]) hx hb dX5_records_10 rfl hl (by decide) rfl (fun ls hl => ?_)
    exact cut_11 KF past kept 0 _ _ _ h (lv_sub hl [1, 0] rfl) hf
def rm_X5_undo : Room := { frames := 1, cells := 0, slots := 0, locals := 24 }
set_option maxRecDepth 20000 in
theorem lk_X5_undo_32 : Cond.fieldLink RX5 32 "LineDoublerModel" "kept" "I" ∈ wsX5_undo := List.mem_of_getElem? (i := 1) (by decide +kernel)
set_option maxRecDepth 20000 in
theorem lk_X5_undo_16 : Cond.fieldLink RX5 16 "LineDoublerModel" "past" "[I" ∈ wsX5_undo := List.mem_of_getElem? (i := 2) (by decide +kernel)
set_option maxRecDepth 20000 in
theorem lk_X5_undo_7 : Cond.fieldLink RX5 7 "LineDoublerModel" "now" "[I" ∈ wsX5_undo := List.mem_of_getElem? (i := 3) (by decide +kernel)
set_option maxRecDepth 20000 in
theorem in_X5_undo_X5 : ∀ x ∈ wsX50, x ∈ wsX5_undo := mem_r _ [8, 9, 10, 11, 12, 13, 14, 15, 16, 17, 18] (by decide +kernel)
set_option maxRecDepth 20000 in
theorem cw_X5_undo_X5_lays_36 {s : State} {args : Array Value} (hts : ∀ w ∈ wsX5_undo, w.before args s = true) : CallB rm_X5_undo s args RX5 36 yX5_lays cX5_lays 5 none wsX5_lays rm_X5_lays 0 0 4 ∧ (Cond.static yX5_lays).before args s = true :=
  va_cwS 4 hts gX5_undo_X5_lays rfl rfl rfl (by decide +kernel) ⟨Nat.le_of_ble_eq_true rfl, Nat.le_of_ble_eq_true rfl⟩
set_option maxHeartbeats 4000000 in
set_option maxRecDepth 100000 in
theorem c_X5_undo (l : Launch) (G : va_G) (cI cC cZ : ClassId) (X : List (ClassId × FieldType)) (m0 m1 m2 m3 m4 m5 m6 m7 : Nat) (now : Nat → Int32) (thn : Nat → Int32) (past : Nat → Int32) (kept : Int32) (slt : Nat → Int32) (held : Nat → Int32) (mpad : Nat → Int32) (mpl : Int32) (mat : Int32) (ords : Nat → Int32) (ordn : Int32) (rv : Int32) (now' : Nat → Int32) (kept' : Int32) (hf : fX5_undo now past kept = some (rv, now', kept')) : CT l yX5_undo wsX5_undo rm_X5_undo G (TY cI cC cZ X) [.ref m0] (wMd cI cZ m0 m1 m2 m3 m4 m5 m6 m7 now thn past kept slt held mpad mpl mat ords ordn) (some (.int rv)) (wMd cI cZ m0 m1 m2 m3 m4 m5 m6 m7 now' thn past kept' slt held mpad mpl mat ords ordn) := by
  refine CT.of (cc := cX5_undo) (maxL := 1) (ret := (some .int)) RX5 rfl (by decide) rfl (Nat.le_of_ble_eq_true rfl) ?_
  intro p e s m args below meth c A ls C hr hlocks hnm h hl
  have hx := C.hx
  have hb := C.hb
  have hl : lv_has ls 1 [(0, .ref m0)] := hl
  unfold fX5_undo at hf
  refine lv_aload_n hx hb dX5_undo_0 rfl (lv_at hl 0 rfl) ?_
  refine r_get C h 0 3 (ci := 5) (N := 11) (Cn := RX5) (T := TX5) rfl rfl (by decide) in_X5_undo_X5 lk_X5_undo_32 rfl dX5_undo_1 ?_
  refine lv_if_ne (tgt := 10) hx hb dX5_undo_4 (by decide) (fun hc => ?_) (fun hc => ?_)
  · replace hf := it_f hf hc
    refine lv_aload_n hx hb dX5_undo_10 rfl (lv_at hl 0 rfl) ?_
    refine lv_dup hx hb dX5_undo_11 rfl ?_
    refine r_get C h 0 3 (ci := 5) (N := 11) (Cn := RX5) (T := TX5) rfl rfl (by decide) in_X5_undo_X5 lk_X5_undo_32 rfl dX5_undo_12 ?_
    refine lv_iconst (v := 1) hx hb dX5_undo_15 (by decide) ?_
    refine lv_isub hx hb dX5_undo_16 ?_
    refine lv_topi (fun kept_1 ekept_1 => ?_)
    replace hf := nm_use hf ekept_1
    refine r_put C h 0 3 (ci := 5) (N := 11) (Cn := RX5) (T := TX5) (ty0 := tyX5) rfl rfl (by decide) in_X5_undo_X5 tyX5_ok nmX5 lk_X5_undo_32 rfl rfl rfl (Nat.le_of_ble_eq_true rfl) (wMd cI cZ m0 m1 m2 m3 m4 m5 m6 m7 now thn past kept_1 slt held mpad mpl mat ords ordn) rfl dX5_undo_17 (fun H locs h => ?_)
    refine lv_aload_n hx hb dX5_undo_20 rfl (lv_at hl 0 rfl) ?_
    refine r_get C h 0 2 (ci := 5) (N := 11) (Cn := RX5) (T := TX5) rfl rfl (by decide) in_X5_undo_X5 lk_X5_undo_16 rfl dX5_undo_21 ?_
    refine lv_sipush (v := 234) hx hb dX5_undo_24 (by decide) ?_
    refine lv_aload_n hx hb dX5_undo_27 rfl (lv_at hl 0 rfl) ?_
    refine r_get C h 0 3 (ci := 5) (N := 11) (Cn := RX5) (T := TX5) rfl rfl (by decide) in_X5_undo_X5 lk_X5_undo_32 rfl dX5_undo_28 ?_
    refine lv_imul hx hb dX5_undo_31 ?_
    refine lv_aload_n hx hb dX5_undo_32 rfl (lv_at hl 0 rfl) ?_
    refine r_get C h 0 0 (ci := 5) (N := 11) (Cn := RX5) (T := TX5) rfl rfl (by decide) in_X5_undo_X5 lk_X5_undo_7 rfl dX5_undo_33 ?_
    refine lv_iconst (v := 0) hx hb dX5_undo_36 (by decide) ?_
    obtain ⟨now_2, hq_3, hf⟩ := ob1_use hf
    refine r_callS C h (cw_X5_undo_X5_lays_36 C.hts) (rest := []) (c_X5_lays l G cI cC cZ X m3 m1 1404 past 234 now (234 * kept_1) (0 : Int32) now_2 hq_3) [3, 1] rfl rfl rfl rfl hl.1 rfl (Nat.le_of_ble_eq_true rfl) ⟨Nat.le_of_ble_eq_true rfl, Nat.le_of_ble_eq_true rfl⟩ (wMd cI cZ m0 m1 m2 m3 m4 m5 m6 m7 now_2 thn past kept_1 slt held mpad mpl mat ords ordn) rfl rfl dX5_undo_37 (fun H locs h => ?_)
    refine lv_aload_n hx hb dX5_undo_40 rfl (lv_at hl 0 rfl) ?_
    refine r_get C h 0 3 (ci := 5) (N := 11) (Cn := RX5) (T := TX5) rfl rfl (by decide) in_X5_undo_X5 lk_X5_undo_32 rfl dX5_undo_41 ?_
    cases hf
    exact r_iret C h hr hlocks dX5_undo_44
  · replace hf := it_t hf hc
    refine lv_bipush (v := (-5)) hx hb dX5_undo_7 (by decide) ?_
    cases hf
    exact r_iret C h hr hlocks dX5_undo_9
def rm_X5_save : Room := { frames := 1, cells := 0, slots := 0, locals := 24 }
set_option maxRecDepth 20000 in
theorem lk_X5_save_7 : Cond.fieldLink RX5 7 "LineDoublerModel" "now" "[I" ∈ wsX5_save := List.mem_of_getElem? (i := 1) (by decide +kernel)
set_option maxRecDepth 20000 in
theorem lk_X5_save_19 : Cond.fieldLink RX5 19 "LineDoublerModel" "slots" "[I" ∈ wsX5_save := List.mem_of_getElem? (i := 2) (by decide +kernel)
set_option maxRecDepth 20000 in
theorem lk_X5_save_22 : Cond.fieldLink RX5 22 "LineDoublerModel" "held" "[Z" ∈ wsX5_save := List.mem_of_getElem? (i := 3) (by decide +kernel)
set_option maxRecDepth 20000 in
theorem in_X5_save_X5 : ∀ x ∈ wsX50, x ∈ wsX5_save := mem_r _ [11, 12, 13, 14, 15, 16, 17, 18, 19, 20, 21] (by decide +kernel)
set_option maxRecDepth 20000 in
theorem cw_X5_save_X5_in_40 {s : State} {args : Array Value} (hts : ∀ w ∈ wsX5_save, w.before args s = true) : CallB rm_X5_save s args RX5 40 yX5_in cX5_in 3 (some .boolean) wsX5_in rm_X5_in 0 0 3 ∧ (Cond.static yX5_in).before args s = true :=
  va_cwS 3 hts gX5_save_X5_in rfl rfl rfl (by decide +kernel) ⟨Nat.le_of_ble_eq_true rfl, Nat.le_of_ble_eq_true rfl⟩
set_option maxRecDepth 20000 in
theorem cw_X5_save_X5_lays_36 {s : State} {args : Array Value} (hts : ∀ w ∈ wsX5_save, w.before args s = true) : CallB rm_X5_save s args RX5 36 yX5_lays cX5_lays 5 none wsX5_lays rm_X5_lays 0 0 4 ∧ (Cond.static yX5_lays).before args s = true :=
  va_cwS 4 hts gX5_save_X5_lays rfl rfl rfl (by decide +kernel) ⟨Nat.le_of_ble_eq_true rfl, Nat.le_of_ble_eq_true rfl⟩
set_option maxHeartbeats 4000000 in
set_option maxRecDepth 100000 in
theorem c_X5_save (l : Launch) (G : va_G) (cI cC cZ : ClassId) (X : List (ClassId × FieldType)) (m0 m1 m2 m3 m4 m5 m6 m7 : Nat) (now : Nat → Int32) (thn : Nat → Int32) (past : Nat → Int32) (kept : Int32) (slt : Nat → Int32) (held : Nat → Int32) (mpad : Nat → Int32) (mpl : Int32) (mat : Int32) (ords : Nat → Int32) (ordn : Int32) (x1 : Int32) (rv : Int32) (slt' : Nat → Int32) (held' : Nat → Int32) (hf : fX5_save now slt held x1 = some (rv, slt', held')) : CT l yX5_save wsX5_save rm_X5_save G (TY cI cC cZ X) [.ref m0, .int x1] (wMd cI cZ m0 m1 m2 m3 m4 m5 m6 m7 now thn past kept slt held mpad mpl mat ords ordn) (some (.int rv)) (wMd cI cZ m0 m1 m2 m3 m4 m5 m6 m7 now thn past kept slt' held' mpad mpl mat ords ordn) := by
  refine CT.of (cc := cX5_save) (maxL := 2) (ret := (some .int)) RX5 rfl (by decide) rfl (Nat.le_of_ble_eq_true rfl) ?_
  intro p e s m args below meth c A ls C hr hlocks hnm h hl
  have hx := C.hx
  have hb := C.hb
  have hl : lv_has ls 2 [(0, .ref m0), (1, .int x1)] := hl
  unfold fX5_save at hf
  refine lv_iload_n hx hb dX5_save_0 rfl (lv_at hl 1 rfl) ?_
  refine lv_iconst (v := 0) hx hb dX5_save_1 (by decide) ?_
  refine lv_iconst (v := 1) hx hb dX5_save_2 (by decide) ?_
  obtain ⟨r_1, hq_2, hf⟩ := ob1_use hf
  refine r_callS C h (cw_X5_save_X5_in_40 C.hts) (rest := []) (c_X5_in l G cI cC cZ X x1 (0 : Int32) (1 : Int32) r_1 hq_2) [] rfl rfl rfl rfl hl.1 rfl (Nat.le_of_ble_eq_true rfl) ⟨Nat.le_of_ble_eq_true rfl, Nat.le_of_ble_eq_true rfl⟩ (wMd cI cZ m0 m1 m2 m3 m4 m5 m6 m7 now thn past kept slt held mpad mpl mat ords ordn) rfl rfl dX5_save_3 (fun H locs h => ?_)
  refine lv_if_ne (tgt := 12) hx hb dX5_save_6 (by decide) (fun hc => ?_) (fun hc => ?_)
  · replace hf := it_f hf hc
    refine lv_aload_n hx hb dX5_save_12 rfl (lv_at hl 0 rfl) ?_
    refine r_get C h 0 0 (ci := 5) (N := 11) (Cn := RX5) (T := TX5) rfl rfl (by decide) in_X5_save_X5 lk_X5_save_7 rfl dX5_save_13 ?_
    refine lv_iconst (v := 0) hx hb dX5_save_16 (by decide) ?_
    refine lv_aload_n hx hb dX5_save_17 rfl (lv_at hl 0 rfl) ?_
    refine r_get C h 0 4 (ci := 5) (N := 11) (Cn := RX5) (T := TX5) rfl rfl (by decide) in_X5_save_X5 lk_X5_save_19 rfl dX5_save_18 ?_
    refine lv_sipush (v := 234) hx hb dX5_save_21 (by decide) ?_
    refine lv_iload_n hx hb dX5_save_24 rfl (lv_at hl 1 rfl) ?_
    refine lv_imul hx hb dX5_save_25 ?_
    obtain ⟨slt_3, hq_4, hf⟩ := ob1_use hf
    refine r_callS C h (cw_X5_save_X5_lays_36 C.hts) (rest := []) (c_X5_lays l G cI cC cZ X m1 m4 234 now 468 slt (0 : Int32) (234 * x1) slt_3 hq_4) [1, 4] rfl rfl rfl rfl hl.1 rfl (Nat.le_of_ble_eq_true rfl) ⟨Nat.le_of_ble_eq_true rfl, Nat.le_of_ble_eq_true rfl⟩ (wMd cI cZ m0 m1 m2 m3 m4 m5 m6 m7 now thn past kept slt_3 held mpad mpl mat ords ordn) rfl rfl dX5_save_26 (fun H locs h => ?_)
    refine lv_aload_n hx hb dX5_save_29 rfl (lv_at hl 0 rfl) ?_
    refine r_get C h 0 5 (ci := 5) (N := 11) (Cn := RX5) (T := TX5) rfl rfl (by decide) in_X5_save_X5 lk_X5_save_22 rfl dX5_save_30 ?_
    refine lv_iload_n hx hb dX5_save_33 rfl (lv_at hl 1 rfl) ?_
    refine lv_iconst (v := 1) hx hb dX5_save_34 (by decide) ?_
    obtain ⟨j_5, hj_5, hf⟩ := chk_use hf
    refine r_zast C h 5 rfl rfl hj_5 (fun z__ => (wMd cI cZ m0 m1 m2 m3 m4 m5 m6 m7 now thn past kept slt_3 z__ mpad mpl mat ords ordn)) (fun _ => rfl) dX5_save_35 (fun held_6 eheld_6 H locs h => ?_)
    replace hf := nm_use hf eheld_6
    refine lv_aload_n hx hb dX5_save_36 rfl (lv_at hl 0 rfl) ?_
    refine r_get C h 0 0 (ci := 5) (N := 11) (Cn := RX5) (T := TX5) rfl rfl (by decide) in_X5_save_X5 lk_X5_save_7 rfl dX5_save_37 ?_
    refine lv_iconst (v := 0) hx hb dX5_save_40 (by decide) ?_
    refine r_ald C h 1 rfl rfl k_0_234 dX5_save_41 ?_
    cases hf
    exact r_iret C h hr hlocks dX5_save_42
  · replace hf := it_t hf hc
    refine lv_bipush (v := (-2)) hx hb dX5_save_9 (by decide) ?_
    cases hf
    exact r_iret C h hr hlocks dX5_save_11
def rm_X5_restore : Room := { frames := 2, cells := 0, slots := 0, locals := 45 }
set_option maxRecDepth 20000 in
theorem lk_X5_restore_22 : Cond.fieldLink RX5 22 "LineDoublerModel" "held" "[Z" ∈ wsX5_restore := List.mem_of_getElem? (i := 1) (by decide +kernel)
set_option maxRecDepth 20000 in
theorem lk_X5_restore_19 : Cond.fieldLink RX5 19 "LineDoublerModel" "slots" "[I" ∈ wsX5_restore := List.mem_of_getElem? (i := 2) (by decide +kernel)
set_option maxRecDepth 20000 in
theorem lk_X5_restore_7 : Cond.fieldLink RX5 7 "LineDoublerModel" "now" "[I" ∈ wsX5_restore := List.mem_of_getElem? (i := 3) (by decide +kernel)
set_option maxRecDepth 20000 in
theorem in_X5_restore_X5 : ∀ x ∈ wsX50, x ∈ wsX5_restore := mem_r _ [17, 18, 19, 20, 21, 22, 23, 24, 25, 26, 27] (by decide +kernel)
set_option maxRecDepth 20000 in
theorem cw_X5_restore_X5_in_40 {s : State} {args : Array Value} (hts : ∀ w ∈ wsX5_restore, w.before args s = true) : CallB rm_X5_restore s args RX5 40 yX5_in cX5_in 3 (some .boolean) wsX5_in rm_X5_in 0 0 3 ∧ (Cond.static yX5_in).before args s = true :=
  va_cwS 3 hts gX5_restore_X5_in rfl rfl rfl (by decide +kernel) ⟨Nat.le_of_ble_eq_true rfl, Nat.le_of_ble_eq_true rfl⟩
set_option maxRecDepth 20000 in
theorem cw_X5_restore_X5_records_44 {s : State} {args : Array Value} (hts : ∀ w ∈ wsX5_restore, w.before args s = true) : CallW rm_X5_restore s args RX5 RX5 44 yX5_records cX5_records 2 none wsX5_records rm_X5_records 0 0 0 :=
  cwV 0 hts gX5_restore_X5_records rfl rfl rfl (by decide +kernel) ⟨Nat.le_of_ble_eq_true rfl, Nat.le_of_ble_eq_true rfl⟩
set_option maxRecDepth 20000 in
theorem cw_X5_restore_X5_lays_36 {s : State} {args : Array Value} (hts : ∀ w ∈ wsX5_restore, w.before args s = true) : CallB rm_X5_restore s args RX5 36 yX5_lays cX5_lays 5 none wsX5_lays rm_X5_lays 0 0 4 ∧ (Cond.static yX5_lays).before args s = true :=
  va_cwS 4 hts gX5_restore_X5_lays rfl rfl rfl (by decide +kernel) ⟨Nat.le_of_ble_eq_true rfl, Nat.le_of_ble_eq_true rfl⟩
set_option maxHeartbeats 4000000 in
set_option maxRecDepth 100000 in
theorem c_X5_restore (l : Launch) (G : va_G) (cI cC cZ : ClassId) (X : List (ClassId × FieldType)) (m0 m1 m2 m3 m4 m5 m6 m7 : Nat) (now : Nat → Int32) (thn : Nat → Int32) (past : Nat → Int32) (kept : Int32) (slt : Nat → Int32) (held : Nat → Int32) (mpad : Nat → Int32) (mpl : Int32) (mat : Int32) (ords : Nat → Int32) (ordn : Int32) (x1 : Int32) (rv : Int32) (now' : Nat → Int32) (past' : Nat → Int32) (kept' : Int32) (hf : fX5_restore now past kept slt held x1 = some (rv, now', past', kept')) : CT l yX5_restore wsX5_restore rm_X5_restore G (TY cI cC cZ X) [.ref m0, .int x1] (wMd cI cZ m0 m1 m2 m3 m4 m5 m6 m7 now thn past kept slt held mpad mpl mat ords ordn) (some (.int rv)) (wMd cI cZ m0 m1 m2 m3 m4 m5 m6 m7 now' thn past' kept' slt held mpad mpl mat ords ordn) := by
  refine CT.of (cc := cX5_restore) (maxL := 2) (ret := (some .int)) RX5 rfl (by decide) rfl (Nat.le_of_ble_eq_true rfl) ?_
  intro p e s m args below meth c A ls C hr hlocks hnm h hl
  have hx := C.hx
  have hb := C.hb
  have hl : lv_has ls 2 [(0, .ref m0), (1, .int x1)] := hl
  unfold fX5_restore at hf
  refine lv_iload_n hx hb dX5_restore_0 rfl (lv_at hl 1 rfl) ?_
  refine lv_iconst (v := 0) hx hb dX5_restore_1 (by decide) ?_
  refine lv_iconst (v := 1) hx hb dX5_restore_2 (by decide) ?_
  obtain ⟨r_1, hq_2, hf⟩ := ob1_use hf
  refine r_callS C h (cw_X5_restore_X5_in_40 C.hts) (rest := []) (c_X5_in l G cI cC cZ X x1 (0 : Int32) (1 : Int32) r_1 hq_2) [] rfl rfl rfl rfl hl.1 rfl (Nat.le_of_ble_eq_true rfl) ⟨Nat.le_of_ble_eq_true rfl, Nat.le_of_ble_eq_true rfl⟩ (wMd cI cZ m0 m1 m2 m3 m4 m5 m6 m7 now thn past kept slt held mpad mpl mat ords ordn) rfl rfl dX5_restore_3 (fun H locs h => ?_)
  refine lv_if_ne (tgt := 12) hx hb dX5_restore_6 (by decide) (fun hc => ?_) (fun hc => ?_)
  · replace hf := it_f hf hc
    refine lv_aload_n hx hb dX5_restore_12 rfl (lv_at hl 0 rfl) ?_
    refine r_get C h 0 5 (ci := 5) (N := 11) (Cn := RX5) (T := TX5) rfl rfl (by decide) in_X5_restore_X5 lk_X5_restore_22 rfl dX5_restore_13 ?_
    refine lv_iload_n hx hb dX5_restore_16 rfl (lv_at hl 1 rfl) ?_
    obtain ⟨j_3, hj_3, hf⟩ := chk_use hf
    refine r_zald C h 5 rfl rfl hj_3 dX5_restore_17 ?_
    refine lv_if_ne (tgt := 24) hx hb dX5_restore_18 (by decide) (fun hc => ?_) (fun hc => ?_)
    · replace hf := it_f hf hc
      refine lv_aload_n hx hb dX5_restore_24 rfl (lv_at hl 0 rfl) ?_
      obtain ⟨past_4, kept_5, hq_6, hf⟩ := ob2_use hf
      refine r_callV C h (cw_X5_restore_X5_records_44 C.hts) (rest := []) (ci := 5) (N := 11) (Cn := RX5) (T := TX5) (c_X5_records l G cI cC cZ X m0 m1 m2 m3 m4 m5 m6 m7 now thn past kept slt held mpad mpl mat ords ordn past_4 kept_5 hq_6) [0, 1, 2, 3, 4, 5, 6, 7] rfl rfl rfl rfl 0 rfl rfl hl.1 rfl (Nat.le_of_ble_eq_true rfl) ⟨Nat.le_of_ble_eq_true rfl, Nat.le_of_ble_eq_true rfl⟩ (wMd cI cZ m0 m1 m2 m3 m4 m5 m6 m7 now thn past_4 kept_5 slt held mpad mpl mat ords ordn) rfl rfl dX5_restore_25 (fun H locs h => ?_)
      refine lv_aload_n hx hb dX5_restore_28 rfl (lv_at hl 0 rfl) ?_
      refine r_get C h 0 4 (ci := 5) (N := 11) (Cn := RX5) (T := TX5) rfl rfl (by decide) in_X5_restore_X5 lk_X5_restore_19 rfl dX5_restore_29 ?_
      refine lv_sipush (v := 234) hx hb dX5_restore_32 (by decide) ?_
      refine lv_iload_n hx hb dX5_restore_35 rfl (lv_at hl 1 rfl) ?_
      refine lv_imul hx hb dX5_restore_36 ?_
      refine lv_aload_n hx hb dX5_restore_37 rfl (lv_at hl 0 rfl) ?_
      refine r_get C h 0 0 (ci := 5) (N := 11) (Cn := RX5) (T := TX5) rfl rfl (by decide) in_X5_restore_X5 lk_X5_restore_7 rfl dX5_restore_38 ?_
      refine lv_iconst (v := 0) hx hb dX5_restore_41 (by decide) ?_
      obtain ⟨now_7, hq_8, hf⟩ := ob1_use hf
      refine r_callS C h (cw_X5_restore_X5_lays_36 C.hts) (rest := []) (c_X5_lays l G cI cC cZ X m4 m1 468 slt 234 now (234 * x1) (0 : Int32) now_7 hq_8) [4, 1] rfl rfl rfl rfl hl.1 rfl (Nat.le_of_ble_eq_true rfl) ⟨Nat.le_of_ble_eq_true rfl, Nat.le_of_ble_eq_true rfl⟩ (wMd cI cZ m0 m1 m2 m3 m4 m5 m6 m7 now_7 thn past_4 kept_5 slt held mpad mpl mat ords ordn) rfl rfl dX5_restore_42 (fun H locs h => ?_)
      refine lv_aload_n hx hb dX5_restore_45 rfl (lv_at hl 0 rfl) ?_
      refine r_get C h 0 0 (ci := 5) (N := 11) (Cn := RX5) (T := TX5) rfl rfl (by decide) in_X5_restore_X5 lk_X5_restore_7 rfl dX5_restore_46 ?_
      refine lv_iconst (v := 0) hx hb dX5_restore_49 (by decide) ?_
      refine r_ald C h 1 rfl rfl k_0_234 dX5_restore_50 ?_
      cases hf
      exact r_iret C h hr hlocks dX5_restore_51
    · replace hf := it_t hf hc
      refine lv_bipush (v := (-5)) hx hb dX5_restore_21 (by decide) ?_
      cases hf
      exact r_iret C h hr hlocks dX5_restore_23
  · replace hf := it_t hf hc
    refine lv_bipush (v := (-2)) hx hb dX5_restore_9 (by decide) ?_
    cases hf
    exact r_iret C h hr hlocks dX5_restore_11
def rm_X5_changes : Room := { frames := 0, cells := 0, slots := 0, locals := 0 }
set_option maxRecDepth 20000 in
theorem lk_X5_changes_7 : Cond.fieldLink RX5 7 "LineDoublerModel" "now" "[I" ∈ wsX5_changes := List.mem_of_getElem? (i := 1) (by decide +kernel)
set_option maxRecDepth 20000 in
theorem in_X5_changes_X5 : ∀ x ∈ wsX50, x ∈ wsX5_changes := mem_r _ [2, 3, 4, 5, 6, 7, 8, 9, 10, 11, 12] (by decide +kernel)
set_option maxHeartbeats 4000000 in
set_option maxRecDepth 100000 in
theorem c_X5_changes (l : Launch) (G : va_G) (cI cC cZ : ClassId) (X : List (ClassId × FieldType)) (m0 m1 m2 m3 m4 m5 m6 m7 : Nat) (now : Nat → Int32) (thn : Nat → Int32) (past : Nat → Int32) (kept : Int32) (slt : Nat → Int32) (held : Nat → Int32) (mpad : Nat → Int32) (mpl : Int32) (mat : Int32) (ords : Nat → Int32) (ordn : Int32) (x1 : Int32) (x2 : Int32) (rv : Int32) (now' : Nat → Int32) (hf : fX5_changes now x1 x2 = some (rv, now')) : CT l yX5_changes wsX5_changes rm_X5_changes G (TY cI cC cZ X) [.ref m0, .int x1, .int x2] (wMd cI cZ m0 m1 m2 m3 m4 m5 m6 m7 now thn past kept slt held mpad mpl mat ords ordn) (some (.int rv)) (wMd cI cZ m0 m1 m2 m3 m4 m5 m6 m7 now' thn past kept slt held mpad mpl mat ords ordn) := by
  refine CT.of (cc := cX5_changes) (maxL := 4) (ret := (some .int)) RX5 rfl (by decide) rfl (Nat.le_of_ble_eq_true rfl) ?_
  intro p e s m args below meth c A ls C hr hlocks hnm h hl
  have hx := C.hx
  have hb := C.hb
  have hl : lv_has ls 4 [(0, .ref m0), (1, .int x1), (2, .int x2)] := hl
  unfold fX5_changes at hf
  refine lv_aload_n hx hb dX5_changes_0 rfl (lv_at hl 0 rfl) ?_
  refine r_get C h 0 0 (ci := 5) (N := 11) (Cn := RX5) (T := TX5) rfl rfl (by decide) in_X5_changes_X5 lk_X5_changes_7 rfl dX5_changes_1 ?_
  refine lv_iload_n hx hb dX5_changes_4 rfl (lv_at hl 1 rfl) ?_
  obtain ⟨j_1, hj_1, hf⟩ := chk_use hf
  refine r_ald C h 1 rfl rfl hj_1 dX5_changes_5 ?_
  refine lv_topi (fun x3_2 ex3_2 => ?_)
  replace hf := nm_use hf ex3_2
  refine lv_istore_n (lv' := [(3, .int x3_2), (0, .ref m0), (1, .int x1), (2, .int x2)]) hx hb dX5_changes_6 rfl hl (by decide) rfl (fun ls hl => ?_)
  refine lv_aload_n hx hb dX5_changes_7 rfl (lv_at hl 1 rfl) ?_
  refine r_get C h 0 0 (ci := 5) (N := 11) (Cn := RX5) (T := TX5) rfl rfl (by decide) in_X5_changes_X5 lk_X5_changes_7 rfl dX5_changes_8 ?_
  refine lv_iload_n hx hb dX5_changes_11 rfl (lv_at hl 2 rfl) ?_
  refine lv_iload_n hx hb dX5_changes_12 rfl (lv_at hl 3 rfl) ?_
  obtain ⟨j_3, hj_3, hf⟩ := chk_use hf
  refine r_ast C h 1 rfl rfl hj_3 (fun z__ => (wMd cI cZ m0 m1 m2 m3 m4 m5 m6 m7 z__ thn past kept slt held mpad mpl mat ords ordn)) (fun _ => rfl) dX5_changes_13 (fun now_4 enow_4 H locs h => ?_)
  replace hf := nm_use hf enow_4
  refine lv_iload_n hx hb dX5_changes_14 rfl (lv_at hl 0 rfl) ?_
  cases hf
  exact r_iret C h hr hlocks dX5_changes_15
def rm_X5_set : Room := { frames := 2, cells := 0, slots := 0, locals := 45 }
set_option maxRecDepth 20000 in
theorem lk_X5_set_7 : Cond.fieldLink RX5 7 "LineDoublerModel" "now" "[I" ∈ wsX5_set := List.mem_of_getElem? (i := 1) (by decide +kernel)
set_option maxRecDepth 20000 in
theorem in_X5_set_X5 : ∀ x ∈ wsX50, x ∈ wsX5_set := mem_r _ [22, 23, 24, 25, 26, 27, 28, 29, 30, 31, 32] (by decide +kernel)
set_option maxRecDepth 20000 in
theorem cw_X5_set_X5_in_40 {s : State} {args : Array Value} (hts : ∀ w ∈ wsX5_set, w.before args s = true) : CallB rm_X5_set s args RX5 40 yX5_in cX5_in 3 (some .boolean) wsX5_in rm_X5_in 0 0 3 ∧ (Cond.static yX5_in).before args s = true :=
  va_cwS 3 hts gX5_set_X5_in rfl rfl rfl (by decide +kernel) ⟨Nat.le_of_ble_eq_true rfl, Nat.le_of_ble_eq_true rfl⟩
set_option maxRecDepth 20000 in
theorem cw_X5_set_X5_isFor_87 {s : State} {args : Array Value} (hts : ∀ w ∈ wsX5_set, w.before args s = true) : CallB rm_X5_set s args RX5 87 yX5_isFor cX5_isFor 2 (some .boolean) wsX5_isFor rm_X5_isFor 0 0 2 ∧ (Cond.static yX5_isFor).before args s = true :=
  va_cwS 2 hts gX5_set_X5_isFor rfl rfl rfl (by decide +kernel) ⟨Nat.le_of_ble_eq_true rfl, Nat.le_of_ble_eq_true rfl⟩
set_option maxRecDepth 20000 in
theorem cw_X5_set_X5_records_44 {s : State} {args : Array Value} (hts : ∀ w ∈ wsX5_set, w.before args s = true) : CallW rm_X5_set s args RX5 RX5 44 yX5_records cX5_records 2 none wsX5_records rm_X5_records 0 0 0 :=
  cwV 0 hts gX5_set_X5_records rfl rfl rfl (by decide +kernel) ⟨Nat.le_of_ble_eq_true rfl, Nat.le_of_ble_eq_true rfl⟩
set_option maxRecDepth 20000 in
theorem cw_X5_set_X5_changes_91 {s : State} {args : Array Value} (hts : ∀ w ∈ wsX5_set, w.before args s = true) : CallW rm_X5_set s args RX5 RX5 91 yX5_changes cX5_changes 4 (some .int) wsX5_changes rm_X5_changes 0 0 2 :=
  cwV 2 hts gX5_set_X5_changes rfl rfl rfl (by decide +kernel) ⟨Nat.le_of_ble_eq_true rfl, Nat.le_of_ble_eq_true rfl⟩
set_option maxHeartbeats 4000000 in
set_option maxRecDepth 100000 in
theorem c_X5_set (l : Launch) (G : va_G) (cI cC cZ : ClassId) (X : List (ClassId × FieldType)) (m0 m1 m2 m3 m4 m5 m6 m7 : Nat) (now : Nat → Int32) (thn : Nat → Int32) (past : Nat → Int32) (kept : Int32) (slt : Nat → Int32) (held : Nat → Int32) (mpad : Nat → Int32) (mpl : Int32) (mat : Int32) (ords : Nat → Int32) (ordn : Int32) (x1 : Int32) (x2 : Int32) (rv : Int32) (now' : Nat → Int32) (past' : Nat → Int32) (kept' : Int32) (hf : fX5_set now past kept x1 x2 = some (rv, now', past', kept')) : CT l yX5_set wsX5_set rm_X5_set G (TY cI cC cZ X) [.ref m0, .int x1, .int x2] (wMd cI cZ m0 m1 m2 m3 m4 m5 m6 m7 now thn past kept slt held mpad mpl mat ords ordn) (some (.int rv)) (wMd cI cZ m0 m1 m2 m3 m4 m5 m6 m7 now' thn past' kept' slt held mpad mpl mat ords ordn) := by
  refine CT.of (cc := cX5_set) (maxL := 3) (ret := (some .int)) RX5 rfl (by decide) rfl (Nat.le_of_ble_eq_true rfl) ?_
  intro p e s m args below meth c A ls C hr hlocks hnm h hl
  have hx := C.hx
  have hb := C.hb
  have hl : lv_has ls 3 [(0, .ref m0), (1, .int x1), (2, .int x2)] := hl
  have cut_54 : ∀ (now : Nat → Int32) (past : Nat → Int32) (kept : Int32) (x1 : Int32) (x2 : Int32) (H : Heap) (locs : List Loc) (ls : Array Slot), Hx s G A (wMd cI cZ m0 m1 m2 m3 m4 m5 m6 m7 now thn past kept slt held mpad mpl mat ords ordn) H locs → lv_has ls 3 [(0, .ref m0), (1, .int x1), (2, .int x2)] → fX5_set_54 now past kept x1 x2 = some (rv, now', past', kept') → W p l e rm_X5_set s m args below meth c H locs 0 0 (MQ below (Qx G (some (.int rv)) (wMd cI cZ m0 m1 m2 m3 m4 m5 m6 m7 now' thn past' kept' slt held mpad mpl mat ords ordn) A) args s 0 0 A) (F0 m 54 ls []) := by
    intro now past kept x1 x2 H locs ls h hl hf
    unfold fX5_set_54 at hf
    refine lv_aload_n hx hb dX5_set_54 rfl (lv_at hl 0 rfl) ?_
    obtain ⟨past_1, kept_2, hq_3, hf⟩ := ob2_use hf
    refine r_callV C h (cw_X5_set_X5_records_44 C.hts) (rest := []) (ci := 5) (N := 11) (Cn := RX5) (T := TX5) (c_X5_records l G cI cC cZ X m0 m1 m2 m3 m4 m5 m6 m7 now thn past kept slt held mpad mpl mat ords ordn past_1 kept_2 hq_3) [0, 1, 2, 3, 4, 5, 6, 7] rfl rfl rfl rfl 0 rfl rfl hl.1 rfl (Nat.le_of_ble_eq_true rfl) ⟨Nat.le_of_ble_eq_true rfl, Nat.le_of_ble_eq_true rfl⟩ (wMd cI cZ m0 m1 m2 m3 m4 m5 m6 m7 now thn past_1 kept_2 slt held mpad mpl mat ords ordn) rfl rfl dX5_set_55 (fun H locs h => ?_)
    refine lv_aload_n hx hb dX5_set_58 rfl (lv_at hl 0 rfl) ?_
    refine lv_iconst (v := 1) hx hb dX5_set_59 (by decide) ?_
    refine lv_iload_n hx hb dX5_set_60 rfl (lv_at hl 1 rfl) ?_
    refine lv_iadd hx hb dX5_set_61 ?_
    refine lv_iload_n hx hb dX5_set_62 rfl (lv_at hl 2 rfl) ?_
    obtain ⟨r_4, now_5, hq_6, hf⟩ := ob2_use hf
    refine r_callV C h (cw_X5_set_X5_changes_91 C.hts) (rest := []) (ci := 5) (N := 11) (Cn := RX5) (T := TX5) (c_X5_changes l G cI cC cZ X m0 m1 m2 m3 m4 m5 m6 m7 now thn past_1 kept_2 slt held mpad mpl mat ords ordn (1 + x1) x2 r_4 now_5 hq_6) [0, 1, 2, 3, 4, 5, 6, 7] rfl rfl rfl rfl 0 rfl rfl hl.1 rfl (Nat.le_of_ble_eq_true rfl) ⟨Nat.le_of_ble_eq_true rfl, Nat.le_of_ble_eq_true rfl⟩ (wMd cI cZ m0 m1 m2 m3 m4 m5 m6 m7 now_5 thn past_1 kept_2 slt held mpad mpl mat ords ordn) rfl rfl dX5_set_63 (fun H locs h => ?_)
    cases hf
    exact r_iret C h hr hlocks dX5_set_66
  unfold fX5_set at hf
  refine lv_iload_n hx hb dX5_set_0 rfl (lv_at hl 1 rfl) ?_
  refine lv_iconst (v := 0) hx hb dX5_set_1 (by decide) ?_
  refine lv_bipush (v := 7) hx hb dX5_set_2 (by decide) ?_
  obtain ⟨r_1, hq_2, hf⟩ := ob1_use hf
  refine r_callS C h (cw_X5_set_X5_in_40 C.hts) (rest := []) (c_X5_in l G cI cC cZ X x1 (0 : Int32) (7 : Int32) r_1 hq_2) [] rfl rfl rfl rfl hl.1 rfl (Nat.le_of_ble_eq_true rfl) ⟨Nat.le_of_ble_eq_true rfl, Nat.le_of_ble_eq_true rfl⟩ (wMd cI cZ m0 m1 m2 m3 m4 m5 m6 m7 now thn past kept slt held mpad mpl mat ords ordn) rfl rfl dX5_set_4 (fun H locs h => ?_)
  refine lv_if_eq (tgt := 18) hx hb dX5_set_7 (by decide) (fun hc => ?_) (fun hc => ?_)
  · replace hf := it_t hf hc
    refine lv_bipush (v := (-2)) hx hb dX5_set_18 (by decide) ?_
    cases hf
    exact r_iret C h hr hlocks dX5_set_20
  · replace hf := it_f hf hc
    refine lv_iload_n hx hb dX5_set_10 rfl (lv_at hl 1 rfl) ?_
    refine lv_iload_n hx hb dX5_set_11 rfl (lv_at hl 2 rfl) ?_
    obtain ⟨r_3, hq_4, hf⟩ := ob1_use hf
    refine r_callS C h (cw_X5_set_X5_isFor_87 C.hts) (rest := []) (c_X5_isFor l G cI cC cZ X x1 x2 r_3 hq_4) [] rfl rfl rfl rfl hl.1 rfl (Nat.le_of_ble_eq_true rfl) ⟨Nat.le_of_ble_eq_true rfl, Nat.le_of_ble_eq_true rfl⟩ (wMd cI cZ m0 m1 m2 m3 m4 m5 m6 m7 now thn past kept slt held mpad mpl mat ords ordn) rfl rfl dX5_set_12 (fun H locs h => ?_)
    refine lv_if_ne (tgt := 21) hx hb dX5_set_15 (by decide) (fun hc => ?_) (fun hc => ?_)
    · replace hf := it_f hf hc
      refine lv_iload_n hx hb dX5_set_21 rfl (lv_at hl 1 rfl) ?_
      refine lv_iconst (v := 3) hx hb dX5_set_22 (by decide) ?_
      refine lv_icmp_ne (tgt := 35) hx hb dX5_set_23 (by decide) (fun hc => ?_) (fun hc => ?_)
      · replace hf := it_f hf hc
        refine lv_iload_n hx hb dX5_set_35 rfl (lv_at hl 1 rfl) ?_
        refine lv_iconst (v := 2) hx hb dX5_set_36 (by decide) ?_
        refine lv_icmp_ne (tgt := 54) hx hb dX5_set_37 (by decide) (fun hc => ?_) (fun hc => ?_)
        · replace hf := it_f hf hc
          exact cut_54 now past kept x1 x2 _ _ _ h (lv_sub hl [0, 1, 2] rfl) hf
        · replace hf := it_t hf hc
          refine lv_iload_n hx hb dX5_set_40 rfl (lv_at hl 2 rfl) ?_
          refine lv_aload_n hx hb dX5_set_41 rfl (lv_at hl 0 rfl) ?_
          refine r_get C h 0 0 (ci := 5) (N := 11) (Cn := RX5) (T := TX5) rfl rfl (by decide) in_X5_set_X5 lk_X5_set_7 rfl dX5_set_42 ?_
          refine lv_bipush (v := 10) hx hb dX5_set_45 (by decide) ?_
          refine r_ald C h 1 rfl rfl k_10_234 dX5_set_47 ?_
          refine lv_icmp_ge (tgt := 54) hx hb dX5_set_48 (by decide) (fun hc => ?_) (fun hc => ?_)
          · replace hf := it_t hf hc
            exact cut_54 now past kept x1 x2 _ _ _ h (lv_sub hl [0, 1, 2] rfl) hf
          · replace hf := it_f hf hc
            refine lv_bipush (v := (-5)) hx hb dX5_set_51 (by decide) ?_
            cases hf
            exact r_iret C h hr hlocks dX5_set_53
      · replace hf := it_t hf hc
        refine lv_aload_n hx hb dX5_set_26 rfl (lv_at hl 0 rfl) ?_
        refine r_get C h 0 0 (ci := 5) (N := 11) (Cn := RX5) (T := TX5) rfl rfl (by decide) in_X5_set_X5 lk_X5_set_7 rfl dX5_set_27 ?_
        refine lv_iconst (v := 0) hx hb dX5_set_30 (by decide) ?_
        refine r_ald C h 1 rfl rfl k_0_234 dX5_set_31 ?_
        refine lv_if_ne (tgt := 51) hx hb dX5_set_32 (by decide) (fun hc => ?_) (fun hc => ?_)
        · replace hf := it_f hf hc
          refine lv_bipush (v := (-5)) hx hb dX5_set_51 (by decide) ?_
          cases hf
          exact r_iret C h hr hlocks dX5_set_53
        · replace hf := it_t hf hc
          refine lv_iload_n hx hb dX5_set_35 rfl (lv_at hl 1 rfl) ?_
          refine lv_iconst (v := 2) hx hb dX5_set_36 (by decide) ?_
          refine lv_icmp_ne (tgt := 54) hx hb dX5_set_37 (by decide) (fun hc => ?_) (fun hc => ?_)
          · replace hf := it_f hf hc
            exact cut_54 now past kept x1 x2 _ _ _ h (lv_sub hl [0, 1, 2] rfl) hf
          · replace hf := it_t hf hc
            refine lv_iload_n hx hb dX5_set_40 rfl (lv_at hl 2 rfl) ?_
            refine lv_aload_n hx hb dX5_set_41 rfl (lv_at hl 0 rfl) ?_
            refine r_get C h 0 0 (ci := 5) (N := 11) (Cn := RX5) (T := TX5) rfl rfl (by decide) in_X5_set_X5 lk_X5_set_7 rfl dX5_set_42 ?_
            refine lv_bipush (v := 10) hx hb dX5_set_45 (by decide) ?_
            refine r_ald C h 1 rfl rfl k_10_234 dX5_set_47 ?_
            refine lv_icmp_ge (tgt := 54) hx hb dX5_set_48 (by decide) (fun hc => ?_) (fun hc => ?_)
            · replace hf := it_t hf hc
              exact cut_54 now past kept x1 x2 _ _ _ h (lv_sub hl [0, 1, 2] rfl) hf
            · replace hf := it_f hf hc
              refine lv_bipush (v := (-5)) hx hb dX5_set_51 (by decide) ?_
              cases hf
              exact r_iret C h hr hlocks dX5_set_53
    · replace hf := it_t hf hc
      refine lv_bipush (v := (-2)) hx hb dX5_set_18 (by decide) ?_
      cases hf
      exact r_iret C h hr hlocks dX5_set_20
def rm_X5_value : Room := { frames := 2, cells := 0, slots := 0, locals := 45 }
set_option maxRecDepth 20000 in
theorem cw_X5_value_X5_mayTell_95 {s : State} {args : Array Value} (hts : ∀ w ∈ wsX5_value, w.before args s = true) : CallB rm_X5_value s args RX5 95 yX5_mayTell cX5_mayTell 2 (some .int) wsX5_mayTell rm_X5_mayTell 0 0 2 ∧ (Cond.static yX5_mayTell).before args s = true :=
  va_cwS 2 hts gX5_value_X5_mayTell rfl rfl rfl (by decide +kernel) ⟨Nat.le_of_ble_eq_true rfl, Nat.le_of_ble_eq_true rfl⟩
set_option maxRecDepth 20000 in
theorem cw_X5_value_X5_records_44 {s : State} {args : Array Value} (hts : ∀ w ∈ wsX5_value, w.before args s = true) : CallW rm_X5_value s args RX5 RX5 44 yX5_records cX5_records 2 none wsX5_records rm_X5_records 0 0 0 :=
  cwV 0 hts gX5_value_X5_records rfl rfl rfl (by decide +kernel) ⟨Nat.le_of_ble_eq_true rfl, Nat.le_of_ble_eq_true rfl⟩
set_option maxRecDepth 20000 in
theorem cw_X5_value_X5_changes_91 {s : State} {args : Array Value} (hts : ∀ w ∈ wsX5_value, w.before args s = true) : CallW rm_X5_value s args RX5 RX5 91 yX5_changes cX5_changes 4 (some .int) wsX5_changes rm_X5_changes 0 0 2 :=
  cwV 2 hts gX5_value_X5_changes rfl rfl rfl (by decide +kernel) ⟨Nat.le_of_ble_eq_true rfl, Nat.le_of_ble_eq_true rfl⟩
set_option maxHeartbeats 4000000 in
set_option maxRecDepth 100000 in
theorem c_X5_value (l : Launch) (G : va_G) (cI cC cZ : ClassId) (X : List (ClassId × FieldType)) (m0 m1 m2 m3 m4 m5 m6 m7 : Nat) (now : Nat → Int32) (thn : Nat → Int32) (past : Nat → Int32) (kept : Int32) (slt : Nat → Int32) (held : Nat → Int32) (mpad : Nat → Int32) (mpl : Int32) (mat : Int32) (ords : Nat → Int32) (ordn : Int32) (x1 : Int32) (x2 : Int32) (rv : Int32) (now' : Nat → Int32) (past' : Nat → Int32) (kept' : Int32) (hf : fX5_value now past kept x1 x2 = some (rv, now', past', kept')) : CT l yX5_value wsX5_value rm_X5_value G (TY cI cC cZ X) [.ref m0, .int x1, .int x2] (wMd cI cZ m0 m1 m2 m3 m4 m5 m6 m7 now thn past kept slt held mpad mpl mat ords ordn) (some (.int rv)) (wMd cI cZ m0 m1 m2 m3 m4 m5 m6 m7 now' thn past' kept' slt held mpad mpl mat ords ordn) := by
  refine CT.of (cc := cX5_value) (maxL := 4) (ret := (some .int)) RX5 rfl (by decide) rfl (Nat.le_of_ble_eq_true rfl) ?_
  intro p e s m args below meth c A ls C hr hlocks hnm h hl
  have hx := C.hx
  have hb := C.hb
  have hl : lv_has ls 4 [(0, .ref m0), (1, .int x1), (2, .int x2)] := hl
  unfold fX5_value at hf
  refine lv_iload_n hx hb dX5_value_0 rfl (lv_at hl 1 rfl) ?_
  refine lv_iload_n hx hb dX5_value_1 rfl (lv_at hl 2 rfl) ?_
  obtain ⟨r_1, hq_2, hf⟩ := ob1_use hf
  refine r_callS C h (cw_X5_value_X5_mayTell_95 C.hts) (rest := []) (c_X5_mayTell l G cI cC cZ X x1 x2 r_1 hq_2) [] rfl rfl rfl rfl hl.1 rfl (Nat.le_of_ble_eq_true rfl) ⟨Nat.le_of_ble_eq_true rfl, Nat.le_of_ble_eq_true rfl⟩ (wMd cI cZ m0 m1 m2 m3 m4 m5 m6 m7 now thn past kept slt held mpad mpl mat ords ordn) rfl rfl dX5_value_2 (fun H locs h => ?_)
  refine lv_istore_n (lv' := [(3, .int r_1), (0, .ref m0), (1, .int x1), (2, .int x2)]) hx hb dX5_value_5 rfl hl (by decide) rfl (fun ls hl => ?_)
  refine lv_iload_n hx hb dX5_value_6 rfl (lv_at hl 0 rfl) ?_
  refine lv_if_eq (tgt := 12) hx hb dX5_value_7 (by decide) (fun hc => ?_) (fun hc => ?_)
  · replace hf := it_t hf hc
    refine lv_aload_n hx hb dX5_value_12 rfl (lv_at hl 1 rfl) ?_
    obtain ⟨past_3, kept_4, hq_5, hf⟩ := ob2_use hf
    refine r_callV C h (cw_X5_value_X5_records_44 C.hts) (rest := []) (ci := 5) (N := 11) (Cn := RX5) (T := TX5) (c_X5_records l G cI cC cZ X m0 m1 m2 m3 m4 m5 m6 m7 now thn past kept slt held mpad mpl mat ords ordn past_3 kept_4 hq_5) [0, 1, 2, 3, 4, 5, 6, 7] rfl rfl rfl rfl 0 rfl rfl hl.1 rfl (Nat.le_of_ble_eq_true rfl) ⟨Nat.le_of_ble_eq_true rfl, Nat.le_of_ble_eq_true rfl⟩ (wMd cI cZ m0 m1 m2 m3 m4 m5 m6 m7 now thn past_3 kept_4 slt held mpad mpl mat ords ordn) rfl rfl dX5_value_13 (fun H locs h => ?_)
    refine lv_aload_n hx hb dX5_value_16 rfl (lv_at hl 1 rfl) ?_
    refine lv_bipush (v := 26) hx hb dX5_value_17 (by decide) ?_
    refine lv_iload_n hx hb dX5_value_19 rfl (lv_at hl 2 rfl) ?_
    refine lv_iadd hx hb dX5_value_20 ?_
    refine lv_iload_n hx hb dX5_value_21 rfl (lv_at hl 3 rfl) ?_
    obtain ⟨r_6, now_7, hq_8, hf⟩ := ob2_use hf
    refine r_callV C h (cw_X5_value_X5_changes_91 C.hts) (rest := []) (ci := 5) (N := 11) (Cn := RX5) (T := TX5) (c_X5_changes l G cI cC cZ X m0 m1 m2 m3 m4 m5 m6 m7 now thn past_3 kept_4 slt held mpad mpl mat ords ordn (26 + x1) x2 r_6 now_7 hq_8) [0, 1, 2, 3, 4, 5, 6, 7] rfl rfl rfl rfl 0 rfl rfl hl.1 rfl (Nat.le_of_ble_eq_true rfl) ⟨Nat.le_of_ble_eq_true rfl, Nat.le_of_ble_eq_true rfl⟩ (wMd cI cZ m0 m1 m2 m3 m4 m5 m6 m7 now_7 thn past_3 kept_4 slt held mpad mpl mat ords ordn) rfl rfl dX5_value_22 (fun H locs h => ?_)
    cases hf
    exact r_iret C h hr hlocks dX5_value_25
  · replace hf := it_f hf hc
    refine lv_iload_n hx hb dX5_value_10 rfl (lv_at hl 0 rfl) ?_
    cases hf
    exact r_iret C h hr hlocks dX5_value_11
def rm_X5_slips : Room := { frames := 0, cells := 0, slots := 0, locals := 0 }
set_option maxRecDepth 20000 in
theorem lk_X5_slips_7 : Cond.fieldLink RX5 7 "LineDoublerModel" "now" "[I" ∈ wsX5_slips := List.mem_of_getElem? (i := 1) (by decide +kernel)
set_option maxRecDepth 20000 in
theorem in_X5_slips_X5 : ∀ x ∈ wsX50, x ∈ wsX5_slips := mem_r _ [2, 3, 4, 5, 6, 7, 8, 9, 10, 11, 12] (by decide +kernel)
set_option maxHeartbeats 4000000 in
set_option maxRecDepth 100000 in
theorem c_X5_slips (l : Launch) (G : va_G) (cI cC cZ : ClassId) (X : List (ClassId × FieldType)) (m0 m1 m2 m3 m4 m5 m6 m7 : Nat) (now : Nat → Int32) (thn : Nat → Int32) (past : Nat → Int32) (kept : Int32) (slt : Nat → Int32) (held : Nat → Int32) (mpad : Nat → Int32) (mpl : Int32) (mat : Int32) (ords : Nat → Int32) (ordn : Int32) (x1 : Int32) (x2 : Int32) (rv : Int32) (now' : Nat → Int32) (hf : fX5_slips now x1 x2 = some (rv, now')) : CT l yX5_slips wsX5_slips rm_X5_slips G (TY cI cC cZ X) [.ref m0, .int x1, .int x2] (wMd cI cZ m0 m1 m2 m3 m4 m5 m6 m7 now thn past kept slt held mpad mpl mat ords ordn) (some (.int rv)) (wMd cI cZ m0 m1 m2 m3 m4 m5 m6 m7 now' thn past kept slt held mpad mpl mat ords ordn) := by
  refine CT.of (cc := cX5_slips) (maxL := 3) (ret := (some .int)) RX5 rfl (by decide) rfl (Nat.le_of_ble_eq_true rfl) ?_
  intro p e s m args below meth c A ls C hr hlocks hnm h hl
  have hx := C.hx
  have hb := C.hb
  have hl : lv_has ls 3 [(0, .ref m0), (1, .int x1), (2, .int x2)] := hl
  unfold fX5_slips at hf
  refine lv_aload_n hx hb dX5_slips_0 rfl (lv_at hl 0 rfl) ?_
  refine r_get C h 0 0 (ci := 5) (N := 11) (Cn := RX5) (T := TX5) rfl rfl (by decide) in_X5_slips_X5 lk_X5_slips_7 rfl dX5_slips_1 ?_
  refine lv_bipush (v := 18) hx hb dX5_slips_4 (by decide) ?_
  refine lv_iload_n hx hb dX5_slips_6 rfl (lv_at hl 1 rfl) ?_
  refine lv_iadd hx hb dX5_slips_7 ?_
  refine lv_topi (fun y_1 ey_1 => ?_)
  replace hf := nm_use hf ey_1
  refine lv_dup2_11 hx hb dX5_slips_8 rfl rfl ?_
  obtain ⟨j_2, hj_2, hf⟩ := chk_use hf
  refine r_ald C h 1 rfl rfl hj_2 dX5_slips_9 ?_
  refine lv_iload_n hx hb dX5_slips_10 rfl (lv_at hl 2 rfl) ?_
  refine lv_iadd hx hb dX5_slips_11 ?_
  obtain ⟨j_3, hj_3, hf⟩ := chk_use hf
  refine r_ast C h 1 rfl rfl hj_3 (fun z__ => (wMd cI cZ m0 m1 m2 m3 m4 m5 m6 m7 z__ thn past kept slt held mpad mpl mat ords ordn)) (fun _ => rfl) dX5_slips_12 (fun now_4 enow_4 H locs h => ?_)
  replace hf := nm_use hf enow_4
  refine lv_aload_n hx hb dX5_slips_13 rfl (lv_at hl 0 rfl) ?_
  refine r_get C h 0 0 (ci := 5) (N := 11) (Cn := RX5) (T := TX5) rfl rfl (by decide) in_X5_slips_X5 lk_X5_slips_7 rfl dX5_slips_14 ?_
  refine lv_bipush (v := 18) hx hb dX5_slips_17 (by decide) ?_
  refine lv_iload_n hx hb dX5_slips_19 rfl (lv_at hl 1 rfl) ?_
  refine lv_iadd hx hb dX5_slips_20 ?_
  obtain ⟨j_5, hj_5, hf⟩ := chk_use hf
  refine r_ald C h 1 rfl rfl hj_5 dX5_slips_21 ?_
  cases hf
  exact r_iret C h hr hlocks dX5_slips_22
def rm_X5_slip : Room := { frames := 2, cells := 0, slots := 0, locals := 45 }
set_option maxRecDepth 20000 in
theorem cw_X5_slip_X5_maySlip_98 {s : State} {args : Array Value} (hts : ∀ w ∈ wsX5_slip, w.before args s = true) : CallB rm_X5_slip s args RX5 98 yX5_maySlip cX5_maySlip 2 (some .int) wsX5_maySlip rm_X5_maySlip 0 0 2 ∧ (Cond.static yX5_maySlip).before args s = true :=
  va_cwS 2 hts gX5_slip_X5_maySlip rfl rfl rfl (by decide +kernel) ⟨Nat.le_of_ble_eq_true rfl, Nat.le_of_ble_eq_true rfl⟩
set_option maxRecDepth 20000 in
theorem cw_X5_slip_X5_records_44 {s : State} {args : Array Value} (hts : ∀ w ∈ wsX5_slip, w.before args s = true) : CallW rm_X5_slip s args RX5 RX5 44 yX5_records cX5_records 2 none wsX5_records rm_X5_records 0 0 0 :=
  cwV 0 hts gX5_slip_X5_records rfl rfl rfl (by decide +kernel) ⟨Nat.le_of_ble_eq_true rfl, Nat.le_of_ble_eq_true rfl⟩
set_option maxRecDepth 20000 in
theorem cw_X5_slip_X5_slips_101 {s : State} {args : Array Value} (hts : ∀ w ∈ wsX5_slip, w.before args s = true) : CallW rm_X5_slip s args RX5 RX5 101 yX5_slips cX5_slips 3 (some .int) wsX5_slips rm_X5_slips 0 0 2 :=
  cwV 2 hts gX5_slip_X5_slips rfl rfl rfl (by decide +kernel) ⟨Nat.le_of_ble_eq_true rfl, Nat.le_of_ble_eq_true rfl⟩
set_option maxHeartbeats 4000000 in
set_option maxRecDepth 100000 in
theorem c_X5_slip (l : Launch) (G : va_G) (cI cC cZ : ClassId) (X : List (ClassId × FieldType)) (m0 m1 m2 m3 m4 m5 m6 m7 : Nat) (now : Nat → Int32) (thn : Nat → Int32) (past : Nat → Int32) (kept : Int32) (slt : Nat → Int32) (held : Nat → Int32) (mpad : Nat → Int32) (mpl : Int32) (mat : Int32) (ords : Nat → Int32) (ordn : Int32) (x1 : Int32) (x2 : Int32) (rv : Int32) (now' : Nat → Int32) (past' : Nat → Int32) (kept' : Int32) (hf : fX5_slip now past kept x1 x2 = some (rv, now', past', kept')) : CT l yX5_slip wsX5_slip rm_X5_slip G (TY cI cC cZ X) [.ref m0, .int x1, .int x2] (wMd cI cZ m0 m1 m2 m3 m4 m5 m6 m7 now thn past kept slt held mpad mpl mat ords ordn) (some (.int rv)) (wMd cI cZ m0 m1 m2 m3 m4 m5 m6 m7 now' thn past' kept' slt held mpad mpl mat ords ordn) := by
  refine CT.of (cc := cX5_slip) (maxL := 4) (ret := (some .int)) RX5 rfl (by decide) rfl (Nat.le_of_ble_eq_true rfl) ?_
  intro p e s m args below meth c A ls C hr hlocks hnm h hl
  have hx := C.hx
  have hb := C.hb
  have hl : lv_has ls 4 [(0, .ref m0), (1, .int x1), (2, .int x2)] := hl
  unfold fX5_slip at hf
  refine lv_iload_n hx hb dX5_slip_0 rfl (lv_at hl 1 rfl) ?_
  refine lv_iload_n hx hb dX5_slip_1 rfl (lv_at hl 2 rfl) ?_
  obtain ⟨r_1, hq_2, hf⟩ := ob1_use hf
  refine r_callS C h (cw_X5_slip_X5_maySlip_98 C.hts) (rest := []) (c_X5_maySlip l G cI cC cZ X x1 x2 r_1 hq_2) [] rfl rfl rfl rfl hl.1 rfl (Nat.le_of_ble_eq_true rfl) ⟨Nat.le_of_ble_eq_true rfl, Nat.le_of_ble_eq_true rfl⟩ (wMd cI cZ m0 m1 m2 m3 m4 m5 m6 m7 now thn past kept slt held mpad mpl mat ords ordn) rfl rfl dX5_slip_2 (fun H locs h => ?_)
  refine lv_istore_n (lv' := [(3, .int r_1), (0, .ref m0), (1, .int x1), (2, .int x2)]) hx hb dX5_slip_5 rfl hl (by decide) rfl (fun ls hl => ?_)
  refine lv_iload_n hx hb dX5_slip_6 rfl (lv_at hl 0 rfl) ?_
  refine lv_if_eq (tgt := 12) hx hb dX5_slip_7 (by decide) (fun hc => ?_) (fun hc => ?_)
  · replace hf := it_t hf hc
    refine lv_aload_n hx hb dX5_slip_12 rfl (lv_at hl 1 rfl) ?_
    obtain ⟨past_3, kept_4, hq_5, hf⟩ := ob2_use hf
    refine r_callV C h (cw_X5_slip_X5_records_44 C.hts) (rest := []) (ci := 5) (N := 11) (Cn := RX5) (T := TX5) (c_X5_records l G cI cC cZ X m0 m1 m2 m3 m4 m5 m6 m7 now thn past kept slt held mpad mpl mat ords ordn past_3 kept_4 hq_5) [0, 1, 2, 3, 4, 5, 6, 7] rfl rfl rfl rfl 0 rfl rfl hl.1 rfl (Nat.le_of_ble_eq_true rfl) ⟨Nat.le_of_ble_eq_true rfl, Nat.le_of_ble_eq_true rfl⟩ (wMd cI cZ m0 m1 m2 m3 m4 m5 m6 m7 now thn past_3 kept_4 slt held mpad mpl mat ords ordn) rfl rfl dX5_slip_13 (fun H locs h => ?_)
    refine lv_aload_n hx hb dX5_slip_16 rfl (lv_at hl 1 rfl) ?_
    refine lv_iload_n hx hb dX5_slip_17 rfl (lv_at hl 2 rfl) ?_
    refine lv_iload_n hx hb dX5_slip_18 rfl (lv_at hl 3 rfl) ?_
    obtain ⟨r_6, now_7, hq_8, hf⟩ := ob2_use hf
    refine r_callV C h (cw_X5_slip_X5_slips_101 C.hts) (rest := []) (ci := 5) (N := 11) (Cn := RX5) (T := TX5) (c_X5_slips l G cI cC cZ X m0 m1 m2 m3 m4 m5 m6 m7 now thn past_3 kept_4 slt held mpad mpl mat ords ordn x1 x2 r_6 now_7 hq_8) [0, 1, 2, 3, 4, 5, 6, 7] rfl rfl rfl rfl 0 rfl rfl hl.1 rfl (Nat.le_of_ble_eq_true rfl) ⟨Nat.le_of_ble_eq_true rfl, Nat.le_of_ble_eq_true rfl⟩ (wMd cI cZ m0 m1 m2 m3 m4 m5 m6 m7 now_7 thn past_3 kept_4 slt held mpad mpl mat ords ordn) rfl rfl dX5_slip_19 (fun H locs h => ?_)
    cases hf
    exact r_iret C h hr hlocks dX5_slip_22
  · replace hf := it_f hf hc
    refine lv_iload_n hx hb dX5_slip_10 rfl (lv_at hl 0 rfl) ?_
    cases hf
    exact r_iret C h hr hlocks dX5_slip_11
def rm_X5_mayPass : Room := { frames := 1, cells := 0, slots := 0, locals := 22 }
set_option maxRecDepth 20000 in
theorem lk_X5_mayPass_7 : Cond.fieldLink RX5 7 "LineDoublerModel" "now" "[I" ∈ wsX5_mayPass := List.mem_of_getElem? (i := 1) (by decide +kernel)
set_option maxRecDepth 20000 in
theorem kc_X5_mayPass_104 : Cond.constant RX5 104 (99999) ∈ wsX5_mayPass := List.mem_of_getElem? (i := 2) (by decide +kernel)
set_option maxRecDepth 20000 in
theorem in_X5_mayPass_X5 : ∀ x ∈ wsX50, x ∈ wsX5_mayPass := mem_r _ [7, 8, 9, 10, 11, 12, 13, 14, 15, 16, 17] (by decide +kernel)
set_option maxRecDepth 20000 in
theorem cw_X5_mayPass_X5_in_40 {s : State} {args : Array Value} (hts : ∀ w ∈ wsX5_mayPass, w.before args s = true) : CallB rm_X5_mayPass s args RX5 40 yX5_in cX5_in 3 (some .boolean) wsX5_in rm_X5_in 0 0 3 ∧ (Cond.static yX5_in).before args s = true :=
  va_cwS 3 hts gX5_mayPass_X5_in rfl rfl rfl (by decide +kernel) ⟨Nat.le_of_ble_eq_true rfl, Nat.le_of_ble_eq_true rfl⟩
set_option maxHeartbeats 4000000 in
set_option maxRecDepth 100000 in
theorem c_X5_mayPass (l : Launch) (G : va_G) (cI cC cZ : ClassId) (X : List (ClassId × FieldType)) (m0 m1 m2 m3 m4 m5 m6 m7 : Nat) (now : Nat → Int32) (thn : Nat → Int32) (past : Nat → Int32) (kept : Int32) (slt : Nat → Int32) (held : Nat → Int32) (mpad : Nat → Int32) (mpl : Int32) (mat : Int32) (ords : Nat → Int32) (ordn : Int32) (x1 : Int32) (rv : Int32) (hf : fX5_mayPass now x1 = some (rv)) : CT l yX5_mayPass wsX5_mayPass rm_X5_mayPass G (TY cI cC cZ X) [.ref m0, .int x1] (wMd cI cZ m0 m1 m2 m3 m4 m5 m6 m7 now thn past kept slt held mpad mpl mat ords ordn) (some (.int rv)) (wMd cI cZ m0 m1 m2 m3 m4 m5 m6 m7 now thn past kept slt held mpad mpl mat ords ordn) := by
  refine CT.of (cc := cX5_mayPass) (maxL := 2) (ret := (some .int)) RX5 rfl (by decide) rfl (Nat.le_of_ble_eq_true rfl) ?_
  intro p e s m args below meth c A ls C hr hlocks hnm h hl
  have hx := C.hx
  have hb := C.hb
  have hl : lv_has ls 2 [(0, .ref m0), (1, .int x1)] := hl
  unfold fX5_mayPass at hf
  refine lv_iload_n hx hb dX5_mayPass_0 rfl (lv_at hl 1 rfl) ?_
  refine lv_iconst (v := 1) hx hb dX5_mayPass_1 (by decide) ?_
  refine lv_sipush (v := 999) hx hb dX5_mayPass_2 (by decide) ?_
  obtain ⟨r_1, hq_2, hf⟩ := ob1_use hf
  refine r_callS C h (cw_X5_mayPass_X5_in_40 C.hts) (rest := []) (c_X5_in l G cI cC cZ X x1 (1 : Int32) (999 : Int32) r_1 hq_2) [] rfl rfl rfl rfl hl.1 rfl (Nat.le_of_ble_eq_true rfl) ⟨Nat.le_of_ble_eq_true rfl, Nat.le_of_ble_eq_true rfl⟩ (wMd cI cZ m0 m1 m2 m3 m4 m5 m6 m7 now thn past kept slt held mpad mpl mat ords ordn) rfl rfl dX5_mayPass_5 (fun H locs h => ?_)
  refine lv_if_ne (tgt := 16) hx hb dX5_mayPass_8 (by decide) (fun hc => ?_) (fun hc => ?_)
  · replace hf := it_f hf hc
    refine lv_aload_n hx hb dX5_mayPass_16 rfl (lv_at hl 0 rfl) ?_
    refine r_get C h 0 0 (ci := 5) (N := 11) (Cn := RX5) (T := TX5) rfl rfl (by decide) in_X5_mayPass_X5 lk_X5_mayPass_7 rfl dX5_mayPass_17 ?_
    refine lv_iconst (v := 0) hx hb dX5_mayPass_20 (by decide) ?_
    refine r_ald C h 1 rfl rfl k_0_234 dX5_mayPass_21 ?_
    refine lv_iload_n hx hb dX5_mayPass_22 rfl (lv_at hl 1 rfl) ?_
    refine lv_iadd hx hb dX5_mayPass_23 ?_
    refine lv_ldc hx hb C.hown (C.hts _ kc_X5_mayPass_104) dX5_mayPass_24 ?_
    refine lv_icmp_le (tgt := 34) hx hb dX5_mayPass_26 (by decide) (fun hc => ?_) (fun hc => ?_)
    · replace hf := it_t hf hc
      refine lv_iconst (v := 0) hx hb dX5_mayPass_34 (by decide) ?_
      cases hf
      exact r_iret C h hr hlocks dX5_mayPass_35
    · replace hf := it_f hf hc
      refine lv_bipush (v := (-4)) hx hb dX5_mayPass_29 (by decide) ?_
      refine lv_goto (tgt := 35) hx hb dX5_mayPass_31 (by decide) ?_
      cases hf
      exact r_iret C h hr hlocks dX5_mayPass_35
  · replace hf := it_t hf hc
    refine lv_bipush (v := (-2)) hx hb dX5_mayPass_11 (by decide) ?_
    refine lv_goto (tgt := 35) hx hb dX5_mayPass_13 (by decide) ?_
    cases hf
    exact r_iret C h hr hlocks dX5_mayPass_35
def rm_X5_pass : Room := { frames := 5, cells := 0, slots := 0, locals := 110 }
set_option maxRecDepth 20000 in
theorem lk_X5_pass_7 : Cond.fieldLink RX5 7 "LineDoublerModel" "now" "[I" ∈ wsX5_pass := List.mem_of_getElem? (i := 1) (by decide +kernel)
set_option maxRecDepth 20000 in
theorem in_X5_pass_X5 : ∀ x ∈ wsX50, x ∈ wsX5_pass := mem_r _ [56, 57, 58, 59, 60, 61, 62, 63, 64, 65, 66] (by decide +kernel)
set_option maxRecDepth 20000 in
theorem cw_X5_pass_X5_mayPass_105 {s : State} {args : Array Value} (hts : ∀ w ∈ wsX5_pass, w.before args s = true) : CallW rm_X5_pass s args RX5 RX5 105 yX5_mayPass cX5_mayPass 2 (some .int) wsX5_mayPass rm_X5_mayPass 0 0 1 :=
  cwV 1 hts gX5_pass_X5_mayPass rfl rfl rfl (by decide +kernel) ⟨Nat.le_of_ble_eq_true rfl, Nat.le_of_ble_eq_true rfl⟩
set_option maxRecDepth 20000 in
theorem cw_X5_pass_X5_records_44 {s : State} {args : Array Value} (hts : ∀ w ∈ wsX5_pass, w.before args s = true) : CallW rm_X5_pass s args RX5 RX5 44 yX5_records cX5_records 2 none wsX5_records rm_X5_records 0 0 0 :=
  cwV 0 hts gX5_pass_X5_records rfl rfl rfl (by decide +kernel) ⟨Nat.le_of_ble_eq_true rfl, Nat.le_of_ble_eq_true rfl⟩
set_option maxRecDepth 20000 in
theorem cw_X5_pass_X5_passes_109 {s : State} {args : Array Value} (hts : ∀ w ∈ wsX5_pass, w.before args s = true) : CallB rm_X5_pass s args RX5 109 yX5_passes cX5_passes 3 none wsX5_passes rm_X5_passes 0 0 2 ∧ (Cond.static yX5_passes).before args s = true :=
  va_cwS 2 hts gX5_pass_X5_passes rfl rfl rfl (by decide +kernel) ⟨Nat.le_of_ble_eq_true rfl, Nat.le_of_ble_eq_true rfl⟩
set_option maxHeartbeats 4000000 in
set_option maxRecDepth 100000 in
theorem c_X5_pass (l : Launch) (G : va_G) (cI cC cZ : ClassId) (X : List (ClassId × FieldType)) (m0 m1 m2 m3 m4 m5 m6 m7 : Nat) (now : Nat → Int32) (thn : Nat → Int32) (past : Nat → Int32) (kept : Int32) (slt : Nat → Int32) (held : Nat → Int32) (mpad : Nat → Int32) (mpl : Int32) (mat : Int32) (ords : Nat → Int32) (ordn : Int32) (x1 : Int32) (rv : Int32) (now' : Nat → Int32) (past' : Nat → Int32) (kept' : Int32) (hf : fX5_pass now past kept x1 = some (rv, now', past', kept')) : CT l yX5_pass wsX5_pass rm_X5_pass G (TY cI cC cZ X) [.ref m0, .int x1] (wMd cI cZ m0 m1 m2 m3 m4 m5 m6 m7 now thn past kept slt held mpad mpl mat ords ordn) (some (.int rv)) (wMd cI cZ m0 m1 m2 m3 m4 m5 m6 m7 now' thn past' kept' slt held mpad mpl mat ords ordn) := by
  refine CT.of (cc := cX5_pass) (maxL := 3) (ret := (some .int)) RX5 rfl (by decide) rfl (Nat.le_of_ble_eq_true rfl) ?_
  intro p e s m args below meth c A ls C hr hlocks hnm h hl
  have hx := C.hx
  have hb := C.hb
  have hl : lv_has ls 3 [(0, .ref m0), (1, .int x1)] := hl
  unfold fX5_pass at hf
  refine lv_aload_n hx hb dX5_pass_0 rfl (lv_at hl 0 rfl) ?_
  refine lv_iload_n hx hb dX5_pass_1 rfl (lv_at hl 1 rfl) ?_
  obtain ⟨r_1, hq_2, hf⟩ := ob1_use hf
  refine r_callV C h (cw_X5_pass_X5_mayPass_105 C.hts) (rest := []) (ci := 5) (N := 11) (Cn := RX5) (T := TX5) (c_X5_mayPass l G cI cC cZ X m0 m1 m2 m3 m4 m5 m6 m7 now thn past kept slt held mpad mpl mat ords ordn x1 r_1 hq_2) [0, 1, 2, 3, 4, 5, 6, 7] rfl rfl rfl rfl 0 rfl rfl hl.1 rfl (Nat.le_of_ble_eq_true rfl) ⟨Nat.le_of_ble_eq_true rfl, Nat.le_of_ble_eq_true rfl⟩ (wMd cI cZ m0 m1 m2 m3 m4 m5 m6 m7 now thn past kept slt held mpad mpl mat ords ordn) rfl rfl dX5_pass_2 (fun H locs h => ?_)
  refine lv_istore_n (lv' := [(2, .int r_1), (0, .ref m0), (1, .int x1)]) hx hb dX5_pass_5 rfl hl (by decide) rfl (fun ls hl => ?_)
  refine lv_iload_n hx hb dX5_pass_6 rfl (lv_at hl 0 rfl) ?_
  refine lv_if_eq (tgt := 12) hx hb dX5_pass_7 (by decide) (fun hc => ?_) (fun hc => ?_)
  · replace hf := it_t hf hc
    refine lv_aload_n hx hb dX5_pass_12 rfl (lv_at hl 1 rfl) ?_
    obtain ⟨past_3, kept_4, hq_5, hf⟩ := ob2_use hf
    refine r_callV C h (cw_X5_pass_X5_records_44 C.hts) (rest := []) (ci := 5) (N := 11) (Cn := RX5) (T := TX5) (c_X5_records l G cI cC cZ X m0 m1 m2 m3 m4 m5 m6 m7 now thn past kept slt held mpad mpl mat ords ordn past_3 kept_4 hq_5) [0, 1, 2, 3, 4, 5, 6, 7] rfl rfl rfl rfl 0 rfl rfl hl.1 rfl (Nat.le_of_ble_eq_true rfl) ⟨Nat.le_of_ble_eq_true rfl, Nat.le_of_ble_eq_true rfl⟩ (wMd cI cZ m0 m1 m2 m3 m4 m5 m6 m7 now thn past_3 kept_4 slt held mpad mpl mat ords ordn) rfl rfl dX5_pass_13 (fun H locs h => ?_)
    refine lv_aload_n hx hb dX5_pass_16 rfl (lv_at hl 1 rfl) ?_
    refine r_get C h 0 0 (ci := 5) (N := 11) (Cn := RX5) (T := TX5) rfl rfl (by decide) in_X5_pass_X5 lk_X5_pass_7 rfl dX5_pass_17 ?_
    refine lv_iload_n hx hb dX5_pass_20 rfl (lv_at hl 2 rfl) ?_
    obtain ⟨now_6, hq_7, hf⟩ := ob1_use hf
    refine r_callS C h (cw_X5_pass_X5_passes_109 C.hts) (rest := []) (c_X5_passes l G cI cC cZ X m1 now x1 now_6 hq_7) [1] rfl rfl rfl rfl hl.1 rfl (Nat.le_of_ble_eq_true rfl) ⟨Nat.le_of_ble_eq_true rfl, Nat.le_of_ble_eq_true rfl⟩ (wMd cI cZ m0 m1 m2 m3 m4 m5 m6 m7 now_6 thn past_3 kept_4 slt held mpad mpl mat ords ordn) rfl rfl dX5_pass_21 (fun H locs h => ?_)
    refine lv_aload_n hx hb dX5_pass_24 rfl (lv_at hl 1 rfl) ?_
    refine r_get C h 0 0 (ci := 5) (N := 11) (Cn := RX5) (T := TX5) rfl rfl (by decide) in_X5_pass_X5 lk_X5_pass_7 rfl dX5_pass_25 ?_
    refine lv_iconst (v := 0) hx hb dX5_pass_28 (by decide) ?_
    refine r_ald C h 1 rfl rfl k_0_234 dX5_pass_29 ?_
    cases hf
    exact r_iret C h hr hlocks dX5_pass_30
  · replace hf := it_f hf hc
    refine lv_iload_n hx hb dX5_pass_10 rfl (lv_at hl 0 rfl) ?_
    cases hf
    exact r_iret C h hr hlocks dX5_pass_11
def rm_X5_flush : Room := { frames := 2, cells := 0, slots := 0, locals := 46 }
set_option maxRecDepth 20000 in
theorem lk_X5_flush_7 : Cond.fieldLink RX5 7 "LineDoublerModel" "now" "[I" ∈ wsX5_flush := List.mem_of_getElem? (i := 1) (by decide +kernel)
set_option maxRecDepth 20000 in
theorem in_X5_flush_X5 : ∀ x ∈ wsX50, x ∈ wsX5_flush := mem_r _ [24, 25, 26, 27, 28, 29, 30, 31, 32, 33, 34] (by decide +kernel)
set_option maxRecDepth 20000 in
theorem cw_X5_flush_X5_records_44 {s : State} {args : Array Value} (hts : ∀ w ∈ wsX5_flush, w.before args s = true) : CallW rm_X5_flush s args RX5 RX5 44 yX5_records cX5_records 2 none wsX5_records rm_X5_records 0 0 0 :=
  cwV 0 hts gX5_flush_X5_records rfl rfl rfl (by decide +kernel) ⟨Nat.le_of_ble_eq_true rfl, Nat.le_of_ble_eq_true rfl⟩
set_option maxRecDepth 20000 in
theorem cw_X5_flush_X5_loses_67 {s : State} {args : Array Value} (hts : ∀ w ∈ wsX5_flush, w.before args s = true) : CallB rm_X5_flush s args RX5 67 yX5_loses cX5_loses 3 none wsX5_loses rm_X5_loses 0 0 3 ∧ (Cond.static yX5_loses).before args s = true :=
  va_cwS 3 hts gX5_flush_X5_loses rfl rfl rfl (by decide +kernel) ⟨Nat.le_of_ble_eq_true rfl, Nat.le_of_ble_eq_true rfl⟩
set_option maxHeartbeats 4000000 in
set_option maxRecDepth 100000 in
theorem c_X5_flush (l : Launch) (G : va_G) (cI cC cZ : ClassId) (X : List (ClassId × FieldType)) (m0 m1 m2 m3 m4 m5 m6 m7 : Nat) (now : Nat → Int32) (thn : Nat → Int32) (past : Nat → Int32) (kept : Int32) (slt : Nat → Int32) (held : Nat → Int32) (mpad : Nat → Int32) (mpl : Int32) (mat : Int32) (ords : Nat → Int32) (ordn : Int32) (rv : Int32) (now' : Nat → Int32) (past' : Nat → Int32) (kept' : Int32) (hf : fX5_flush now past kept = some (rv, now', past', kept')) : CT l yX5_flush wsX5_flush rm_X5_flush G (TY cI cC cZ X) [.ref m0] (wMd cI cZ m0 m1 m2 m3 m4 m5 m6 m7 now thn past kept slt held mpad mpl mat ords ordn) (some (.int rv)) (wMd cI cZ m0 m1 m2 m3 m4 m5 m6 m7 now' thn past' kept' slt held mpad mpl mat ords ordn) := by
  refine CT.of (cc := cX5_flush) (maxL := 2) (ret := (some .int)) RX5 rfl (by decide) rfl (Nat.le_of_ble_eq_true rfl) ?_
  intro p e s m args below meth c A ls C hr hlocks hnm h hl
  have hx := C.hx
  have hb := C.hb
  have hl : lv_has ls 2 [(0, .ref m0)] := hl
  have cut_12 : ∀ (n : Nat) (now : Nat → Int32) (past : Nat → Int32) (kept : Int32) (x1 : Int32) (H : Heap) (locs : List Loc) (ls : Array Slot), Hx s G A (wMd cI cZ m0 m1 m2 m3 m4 m5 m6 m7 now thn past kept slt held mpad mpl mat ords ordn) H locs → lv_has ls 2 [(0, .ref m0), (1, .int x1)] → fX5_flush_12 n now past kept x1 = some (rv, now', past', kept') → W p l e rm_X5_flush s m args below meth c H locs 0 0 (MQ below (Qx G (some (.int rv)) (wMd cI cZ m0 m1 m2 m3 m4 m5 m6 m7 now' thn past' kept' slt held mpad mpl mat ords ordn) A) args s 0 0 A) (F0 m 12 ls []) := by
    intro n
    induction n with
    | zero =>
      intro now past kept x1 H locs ls h hl hf
      exact (nn_some _ hf).elim
    | succ n ih =>
      intro now past kept x1 H locs ls h hl hf
      have hf : fX5_flush_12_b (fX5_flush_12 n) now past kept x1 = some (rv, now', past', kept') := hf
      unfold fX5_flush_12_b at hf
      refine lv_aload_n hx hb dX5_flush_12 rfl (lv_at hl 0 rfl) ?_
      refine r_get C h 0 0 (ci := 5) (N := 11) (Cn := RX5) (T := TX5) rfl rfl (by decide) in_X5_flush_X5 lk_X5_flush_7 rfl dX5_flush_13 ?_
      refine lv_bipush (v := 10) hx hb dX5_flush_16 (by decide) ?_
      refine r_ald C h 1 rfl rfl k_10_234 dX5_flush_18 ?_
      refine lv_if_le (tgt := 34) hx hb dX5_flush_19 (by decide) (fun hc => ?_) (fun hc => ?_)
      · replace hf := it_t hf hc
        refine lv_iload_n hx hb dX5_flush_34 rfl (lv_at hl 1 rfl) ?_
        cases hf
        exact r_iret C h hr hlocks dX5_flush_35
      · replace hf := it_f hf hc
        refine lv_aload_n hx hb dX5_flush_22 rfl (lv_at hl 0 rfl) ?_
        refine r_get C h 0 0 (ci := 5) (N := 11) (Cn := RX5) (T := TX5) rfl rfl (by decide) in_X5_flush_X5 lk_X5_flush_7 rfl dX5_flush_23 ?_
        refine lv_iconst (v := 0) hx hb dX5_flush_26 (by decide) ?_
        refine lv_iconst (v := 2) hx hb dX5_flush_27 (by decide) ?_
        obtain ⟨now_1, hq_2, hf⟩ := ob1_use hf
        refine r_callS C h (cw_X5_flush_X5_loses_67 C.hts) (rest := []) (c_X5_loses l G cI cC cZ X m1 now (0 : Int32) (2 : Int32) now_1 hq_2) [1] rfl rfl rfl rfl hl.1 rfl (Nat.le_of_ble_eq_true rfl) ⟨Nat.le_of_ble_eq_true rfl, Nat.le_of_ble_eq_true rfl⟩ (wMd cI cZ m0 m1 m2 m3 m4 m5 m6 m7 now_1 thn past kept slt held mpad mpl mat ords ordn) rfl rfl dX5_flush_28 (fun H locs h => ?_)
        refine lv_goto (tgt := 12) hx hb dX5_flush_31 (by decide) ?_
        exact ih now_1 past kept x1 _ _ _ h (lv_sub hl [0, 1] rfl) hf
  unfold fX5_flush at hf
  refine lv_aload_n hx hb dX5_flush_0 rfl (lv_at hl 0 rfl) ?_
  obtain ⟨past_1, kept_2, hq_3, hf⟩ := ob2_use hf
  refine r_callV C h (cw_X5_flush_X5_records_44 C.hts) (rest := []) (ci := 5) (N := 11) (Cn := RX5) (T := TX5) (c_X5_records l G cI cC cZ X m0 m1 m2 m3 m4 m5 m6 m7 now thn past kept slt held mpad mpl mat ords ordn past_1 kept_2 hq_3) [0, 1, 2, 3, 4, 5, 6, 7] rfl rfl rfl rfl 0 rfl rfl hl.1 rfl (Nat.le_of_ble_eq_true rfl) ⟨Nat.le_of_ble_eq_true rfl, Nat.le_of_ble_eq_true rfl⟩ (wMd cI cZ m0 m1 m2 m3 m4 m5 m6 m7 now thn past_1 kept_2 slt held mpad mpl mat ords ordn) rfl rfl dX5_flush_1 (fun H locs h => ?_)
  refine lv_aload_n hx hb dX5_flush_4 rfl (lv_at hl 0 rfl) ?_
  refine r_get C h 0 0 (ci := 5) (N := 11) (Cn := RX5) (T := TX5) rfl rfl (by decide) in_X5_flush_X5 lk_X5_flush_7 rfl dX5_flush_5 ?_
  refine lv_bipush (v := 10) hx hb dX5_flush_8 (by decide) ?_
  refine r_ald C h 1 rfl rfl k_10_234 dX5_flush_10 ?_
  refine lv_topi (fun x1_4 ex1_4 => ?_)
  replace hf := nm_use hf ex1_4
  refine lv_istore_n (lv' := [(1, .int x1_4), (0, .ref m0)]) hx hb dX5_flush_11 rfl hl (by decide) rfl (fun ls hl => ?_)
  exact cut_12 KF now past_1 kept_2 x1_4 _ _ _ h (lv_sub hl [1, 0] rfl) hf
def rm_X5_waiting : Room := { frames := 1, cells := 0, slots := 0, locals := 22 }
set_option maxRecDepth 20000 in
theorem lk_X5_waiting_7 : Cond.fieldLink RX5 7 "LineDoublerModel" "now" "[I" ∈ wsX5_waiting := List.mem_of_getElem? (i := 1) (by decide +kernel)
set_option maxRecDepth 20000 in
theorem in_X5_waiting_X5 : ∀ x ∈ wsX50, x ∈ wsX5_waiting := mem_r _ [9, 10, 11, 12, 13, 14, 15, 16, 17, 18, 19] (by decide +kernel)
set_option maxRecDepth 20000 in
theorem cw_X5_waiting_X5_in_40 {s : State} {args : Array Value} (hts : ∀ w ∈ wsX5_waiting, w.before args s = true) : CallB rm_X5_waiting s args RX5 40 yX5_in cX5_in 3 (some .boolean) wsX5_in rm_X5_in 0 0 3 ∧ (Cond.static yX5_in).before args s = true :=
  va_cwS 3 hts gX5_waiting_X5_in rfl rfl rfl (by decide +kernel) ⟨Nat.le_of_ble_eq_true rfl, Nat.le_of_ble_eq_true rfl⟩
set_option maxRecDepth 20000 in
theorem cw_X5_waiting_X5_of_47 {s : State} {args : Array Value} (hts : ∀ w ∈ wsX5_waiting, w.before args s = true) : CallB rm_X5_waiting s args RX5 47 yX5_of cX5_of 3 (some .int) wsX5_of rm_X5_of 0 0 3 ∧ (Cond.static yX5_of).before args s = true :=
  va_cwS 3 hts gX5_waiting_X5_of rfl rfl rfl (by decide +kernel) ⟨Nat.le_of_ble_eq_true rfl, Nat.le_of_ble_eq_true rfl⟩
set_option maxHeartbeats 4000000 in
set_option maxRecDepth 100000 in
theorem c_X5_waiting (l : Launch) (G : va_G) (cI cC cZ : ClassId) (X : List (ClassId × FieldType)) (m0 m1 m2 m3 m4 m5 m6 m7 : Nat) (now : Nat → Int32) (thn : Nat → Int32) (past : Nat → Int32) (kept : Int32) (slt : Nat → Int32) (held : Nat → Int32) (mpad : Nat → Int32) (mpl : Int32) (mat : Int32) (ords : Nat → Int32) (ordn : Int32) (x1 : Int32) (x2 : Int32) (rv : Int32) (hf : fX5_waiting now x1 x2 = some (rv)) : CT l yX5_waiting wsX5_waiting rm_X5_waiting G (TY cI cC cZ X) [.ref m0, .int x1, .int x2] (wMd cI cZ m0 m1 m2 m3 m4 m5 m6 m7 now thn past kept slt held mpad mpl mat ords ordn) (some (.int rv)) (wMd cI cZ m0 m1 m2 m3 m4 m5 m6 m7 now thn past kept slt held mpad mpl mat ords ordn) := by
  refine CT.of (cc := cX5_waiting) (maxL := 3) (ret := (some .int)) RX5 rfl (by decide) rfl (Nat.le_of_ble_eq_true rfl) ?_
  intro p e s m args below meth c A ls C hr hlocks hnm h hl
  have hx := C.hx
  have hb := C.hb
  have hl : lv_has ls 3 [(0, .ref m0), (1, .int x1), (2, .int x2)] := hl
  unfold fX5_waiting at hf
  refine lv_iload_n hx hb dX5_waiting_0 rfl (lv_at hl 1 rfl) ?_
  refine lv_iconst (v := 0) hx hb dX5_waiting_1 (by decide) ?_
  refine lv_aload_n hx hb dX5_waiting_2 rfl (lv_at hl 0 rfl) ?_
  refine r_get C h 0 0 (ci := 5) (N := 11) (Cn := RX5) (T := TX5) rfl rfl (by decide) in_X5_waiting_X5 lk_X5_waiting_7 rfl dX5_waiting_3 ?_
  refine lv_bipush (v := 10) hx hb dX5_waiting_6 (by decide) ?_
  refine r_ald C h 1 rfl rfl k_10_234 dX5_waiting_8 ?_
  refine lv_iconst (v := 1) hx hb dX5_waiting_9 (by decide) ?_
  refine lv_isub hx hb dX5_waiting_10 ?_
  obtain ⟨r_1, hq_2, hf⟩ := ob1_use hf
  refine r_callS C h (cw_X5_waiting_X5_in_40 C.hts) (rest := []) (c_X5_in l G cI cC cZ X x1 (0 : Int32) ((now 10) - 1) r_1 hq_2) [] rfl rfl rfl rfl hl.1 rfl (Nat.le_of_ble_eq_true rfl) ⟨Nat.le_of_ble_eq_true rfl, Nat.le_of_ble_eq_true rfl⟩ (wMd cI cZ m0 m1 m2 m3 m4 m5 m6 m7 now thn past kept slt held mpad mpl mat ords ordn) rfl rfl dX5_waiting_11 (fun H locs h => ?_)
  refine lv_if_ne (tgt := 19) hx hb dX5_waiting_14 (by decide) (fun hc => ?_) (fun hc => ?_)
  · replace hf := it_f hf hc
    refine lv_iload_n hx hb dX5_waiting_19 rfl (lv_at hl 2 rfl) ?_
    refine lv_iconst (v := 0) hx hb dX5_waiting_20 (by decide) ?_
    refine lv_iconst (v := 3) hx hb dX5_waiting_21 (by decide) ?_
    obtain ⟨r_3, hq_4, hf⟩ := ob1_use hf
    refine r_callS C h (cw_X5_waiting_X5_in_40 C.hts) (rest := []) (c_X5_in l G cI cC cZ X x2 (0 : Int32) (3 : Int32) r_3 hq_4) [] rfl rfl rfl rfl hl.1 rfl (Nat.le_of_ble_eq_true rfl) ⟨Nat.le_of_ble_eq_true rfl, Nat.le_of_ble_eq_true rfl⟩ (wMd cI cZ m0 m1 m2 m3 m4 m5 m6 m7 now thn past kept slt held mpad mpl mat ords ordn) rfl rfl dX5_waiting_22 (fun H locs h => ?_)
    refine lv_if_eq (tgt := 40) hx hb dX5_waiting_25 (by decide) (fun hc => ?_) (fun hc => ?_)
    · replace hf := it_t hf hc
      refine lv_bipush (v := (-2)) hx hb dX5_waiting_40 (by decide) ?_
      cases hf
      exact r_iret C h hr hlocks dX5_waiting_42
    · replace hf := it_f hf hc
      refine lv_aload_n hx hb dX5_waiting_28 rfl (lv_at hl 0 rfl) ?_
      refine r_get C h 0 0 (ci := 5) (N := 11) (Cn := RX5) (T := TX5) rfl rfl (by decide) in_X5_waiting_X5 lk_X5_waiting_7 rfl dX5_waiting_29 ?_
      refine lv_iload_n hx hb dX5_waiting_32 rfl (lv_at hl 1 rfl) ?_
      refine lv_iload_n hx hb dX5_waiting_33 rfl (lv_at hl 2 rfl) ?_
      obtain ⟨r_5, hq_6, hf⟩ := ob1_use hf
      refine r_callS C h (cw_X5_waiting_X5_of_47 C.hts) (rest := []) (c_X5_of l G cI cC cZ X m1 now x1 x2 r_5 hq_6) [1] rfl rfl rfl rfl hl.1 rfl (Nat.le_of_ble_eq_true rfl) ⟨Nat.le_of_ble_eq_true rfl, Nat.le_of_ble_eq_true rfl⟩ (wMd cI cZ m0 m1 m2 m3 m4 m5 m6 m7 now thn past kept slt held mpad mpl mat ords ordn) rfl rfl dX5_waiting_34 (fun H locs h => ?_)
      refine lv_goto (tgt := 42) hx hb dX5_waiting_37 (by decide) ?_
      cases hf
      exact r_iret C h hr hlocks dX5_waiting_42
  · replace hf := it_t hf hc
    refine lv_iconst (v := (-1)) hx hb dX5_waiting_17 (by decide) ?_
    cases hf
    exact r_iret C h hr hlocks dX5_waiting_18
def rm_X5_row : Room := { frames := 1, cells := 0, slots := 0, locals := 22 }
set_option maxRecDepth 20000 in
theorem lk_X5_row_7 : Cond.fieldLink RX5 7 "LineDoublerModel" "now" "[I" ∈ wsX5_row := List.mem_of_getElem? (i := 1) (by decide +kernel)
set_option maxRecDepth 20000 in
theorem in_X5_row_X5 : ∀ x ∈ wsX50, x ∈ wsX5_row := mem_r _ [6, 7, 8, 9, 10, 11, 12, 13, 14, 15, 16] (by decide +kernel)
set_option maxRecDepth 20000 in
theorem cw_X5_row_X5_in_40 {s : State} {args : Array Value} (hts : ∀ w ∈ wsX5_row, w.before args s = true) : CallB rm_X5_row s args RX5 40 yX5_in cX5_in 3 (some .boolean) wsX5_in rm_X5_in 0 0 3 ∧ (Cond.static yX5_in).before args s = true :=
  va_cwS 3 hts gX5_row_X5_in rfl rfl rfl (by decide +kernel) ⟨Nat.le_of_ble_eq_true rfl, Nat.le_of_ble_eq_true rfl⟩
set_option maxHeartbeats 4000000 in
set_option maxRecDepth 100000 in
theorem c_X5_row (l : Launch) (G : va_G) (cI cC cZ : ClassId) (X : List (ClassId × FieldType)) (m0 m1 m2 m3 m4 m5 m6 m7 : Nat) (now : Nat → Int32) (thn : Nat → Int32) (past : Nat → Int32) (kept : Int32) (slt : Nat → Int32) (held : Nat → Int32) (mpad : Nat → Int32) (mpl : Int32) (mat : Int32) (ords : Nat → Int32) (ordn : Int32) (x1 : Int32) (x2 : Int32) (rv : Int32) (hf : fX5_row now x1 x2 = some (rv)) : CT l yX5_row wsX5_row rm_X5_row G (TY cI cC cZ X) [.ref m0, .int x1, .int x2] (wMd cI cZ m0 m1 m2 m3 m4 m5 m6 m7 now thn past kept slt held mpad mpl mat ords ordn) (some (.int rv)) (wMd cI cZ m0 m1 m2 m3 m4 m5 m6 m7 now thn past kept slt held mpad mpl mat ords ordn) := by
  refine CT.of (cc := cX5_row) (maxL := 3) (ret := (some .int)) RX5 rfl (by decide) rfl (Nat.le_of_ble_eq_true rfl) ?_
  intro p e s m args below meth c A ls C hr hlocks hnm h hl
  have hx := C.hx
  have hb := C.hb
  have hl : lv_has ls 3 [(0, .ref m0), (1, .int x1), (2, .int x2)] := hl
  unfold fX5_row at hf
  refine lv_iload_n hx hb dX5_row_0 rfl (lv_at hl 1 rfl) ?_
  refine lv_iconst (v := 0) hx hb dX5_row_1 (by decide) ?_
  refine lv_iconst (v := 2) hx hb dX5_row_2 (by decide) ?_
  refine lv_aload_n hx hb dX5_row_3 rfl (lv_at hl 0 rfl) ?_
  refine r_get C h 0 0 (ci := 5) (N := 11) (Cn := RX5) (T := TX5) rfl rfl (by decide) in_X5_row_X5 lk_X5_row_7 rfl dX5_row_4 ?_
  refine lv_iconst (v := 4) hx hb dX5_row_7 (by decide) ?_
  refine r_ald C h 1 rfl rfl k_4_234 dX5_row_8 ?_
  refine lv_imul hx hb dX5_row_9 ?_
  refine lv_iconst (v := 1) hx hb dX5_row_10 (by decide) ?_
  refine lv_isub hx hb dX5_row_11 ?_
  obtain ⟨r_1, hq_2, hf⟩ := ob1_use hf
  refine r_callS C h (cw_X5_row_X5_in_40 C.hts) (rest := []) (c_X5_in l G cI cC cZ X x1 (0 : Int32) ((2 * (now 4)) - 1) r_1 hq_2) [] rfl rfl rfl rfl hl.1 rfl (Nat.le_of_ble_eq_true rfl) ⟨Nat.le_of_ble_eq_true rfl, Nat.le_of_ble_eq_true rfl⟩ (wMd cI cZ m0 m1 m2 m3 m4 m5 m6 m7 now thn past kept slt held mpad mpl mat ords ordn) rfl rfl dX5_row_12 (fun H locs h => ?_)
  refine lv_if_ne (tgt := 20) hx hb dX5_row_15 (by decide) (fun hc => ?_) (fun hc => ?_)
  · replace hf := it_f hf hc
    refine lv_iload_n hx hb dX5_row_20 rfl (lv_at hl 2 rfl) ?_
    refine lv_iconst (v := 0) hx hb dX5_row_21 (by decide) ?_
    refine lv_iconst (v := 2) hx hb dX5_row_22 (by decide) ?_
    obtain ⟨r_3, hq_4, hf⟩ := ob1_use hf
    refine r_callS C h (cw_X5_row_X5_in_40 C.hts) (rest := []) (c_X5_in l G cI cC cZ X x2 (0 : Int32) (2 : Int32) r_3 hq_4) [] rfl rfl rfl rfl hl.1 rfl (Nat.le_of_ble_eq_true rfl) ⟨Nat.le_of_ble_eq_true rfl, Nat.le_of_ble_eq_true rfl⟩ (wMd cI cZ m0 m1 m2 m3 m4 m5 m6 m7 now thn past kept slt held mpad mpl mat ords ordn) rfl rfl dX5_row_23 (fun H locs h => ?_)
    refine lv_if_eq (tgt := 45) hx hb dX5_row_26 (by decide) (fun hc => ?_) (fun hc => ?_)
    · replace hf := it_t hf hc
      refine lv_bipush (v := (-2)) hx hb dX5_row_45 (by decide) ?_
      cases hf
      exact r_iret C h hr hlocks dX5_row_47
    · replace hf := it_f hf hc
      refine lv_aload_n hx hb dX5_row_29 rfl (lv_at hl 0 rfl) ?_
      refine r_get C h 0 0 (ci := 5) (N := 11) (Cn := RX5) (T := TX5) rfl rfl (by decide) in_X5_row_X5 lk_X5_row_7 rfl dX5_row_30 ?_
      refine lv_bipush (v := 106) hx hb dX5_row_33 (by decide) ?_
      refine lv_iconst (v := 3) hx hb dX5_row_35 (by decide) ?_
      refine lv_iload_n hx hb dX5_row_36 rfl (lv_at hl 1 rfl) ?_
      refine lv_imul hx hb dX5_row_37 ?_
      refine lv_iadd hx hb dX5_row_38 ?_
      refine lv_iload_n hx hb dX5_row_39 rfl (lv_at hl 2 rfl) ?_
      refine lv_iadd hx hb dX5_row_40 ?_
      obtain ⟨j_5, hj_5, hf⟩ := chk_use hf
      refine r_ald C h 1 rfl rfl hj_5 dX5_row_41 ?_
      refine lv_goto (tgt := 47) hx hb dX5_row_42 (by decide) ?_
      cases hf
      exact r_iret C h hr hlocks dX5_row_47
  · replace hf := it_t hf hc
    refine lv_iconst (v := (-1)) hx hb dX5_row_18 (by decide) ?_
    cases hf
    exact r_iret C h hr hlocks dX5_row_19
def rm_X5_ofMissing : Room := { frames := 1, cells := 0, slots := 0, locals := 22 }
set_option maxRecDepth 20000 in
theorem lk_X5_ofMissing_7 : Cond.fieldLink RX5 7 "LineDoublerModel" "now" "[I" ∈ wsX5_ofMissing := List.mem_of_getElem? (i := 1) (by decide +kernel)
set_option maxRecDepth 20000 in
theorem in_X5_ofMissing_X5 : ∀ x ∈ wsX50, x ∈ wsX5_ofMissing := mem_r _ [6, 7, 8, 9, 10, 11, 12, 13, 14, 15, 16] (by decide +kernel)
set_option maxRecDepth 20000 in
theorem cw_X5_ofMissing_X5_in_40 {s : State} {args : Array Value} (hts : ∀ w ∈ wsX5_ofMissing, w.before args s = true) : CallB rm_X5_ofMissing s args RX5 40 yX5_in cX5_in 3 (some .boolean) wsX5_in rm_X5_in 0 0 3 ∧ (Cond.static yX5_in).before args s = true :=
  va_cwS 3 hts gX5_ofMissing_X5_in rfl rfl rfl (by decide +kernel) ⟨Nat.le_of_ble_eq_true rfl, Nat.le_of_ble_eq_true rfl⟩
set_option maxHeartbeats 4000000 in
set_option maxRecDepth 100000 in
theorem c_X5_ofMissing (l : Launch) (G : va_G) (cI cC cZ : ClassId) (X : List (ClassId × FieldType)) (m0 m1 m2 m3 m4 m5 m6 m7 : Nat) (now : Nat → Int32) (thn : Nat → Int32) (past : Nat → Int32) (kept : Int32) (slt : Nat → Int32) (held : Nat → Int32) (mpad : Nat → Int32) (mpl : Int32) (mat : Int32) (ords : Nat → Int32) (ordn : Int32) (x1 : Int32) (x2 : Int32) (rv : Int32) (hf : fX5_ofMissing now x1 x2 = some (rv)) : CT l yX5_ofMissing wsX5_ofMissing rm_X5_ofMissing G (TY cI cC cZ X) [.ref m0, .int x1, .int x2] (wMd cI cZ m0 m1 m2 m3 m4 m5 m6 m7 now thn past kept slt held mpad mpl mat ords ordn) (some (.int rv)) (wMd cI cZ m0 m1 m2 m3 m4 m5 m6 m7 now thn past kept slt held mpad mpl mat ords ordn) := by
  refine CT.of (cc := cX5_ofMissing) (maxL := 3) (ret := (some .int)) RX5 rfl (by decide) rfl (Nat.le_of_ble_eq_true rfl) ?_
  intro p e s m args below meth c A ls C hr hlocks hnm h hl
  have hx := C.hx
  have hb := C.hb
  have hl : lv_has ls 3 [(0, .ref m0), (1, .int x1), (2, .int x2)] := hl
  unfold fX5_ofMissing at hf
  refine lv_iload_n hx hb dX5_ofMissing_0 rfl (lv_at hl 1 rfl) ?_
  refine lv_iconst (v := 0) hx hb dX5_ofMissing_1 (by decide) ?_
  refine lv_aload_n hx hb dX5_ofMissing_2 rfl (lv_at hl 0 rfl) ?_
  refine r_get C h 0 0 (ci := 5) (N := 11) (Cn := RX5) (T := TX5) rfl rfl (by decide) in_X5_ofMissing_X5 lk_X5_ofMissing_7 rfl dX5_ofMissing_3 ?_
  refine lv_bipush (v := 24) hx hb dX5_ofMissing_6 (by decide) ?_
  refine r_ald C h 1 rfl rfl k_24_234 dX5_ofMissing_8 ?_
  refine lv_iconst (v := 1) hx hb dX5_ofMissing_9 (by decide) ?_
  refine lv_isub hx hb dX5_ofMissing_10 ?_
  obtain ⟨r_1, hq_2, hf⟩ := ob1_use hf
  refine r_callS C h (cw_X5_ofMissing_X5_in_40 C.hts) (rest := []) (c_X5_in l G cI cC cZ X x1 (0 : Int32) ((now 24) - 1) r_1 hq_2) [] rfl rfl rfl rfl hl.1 rfl (Nat.le_of_ble_eq_true rfl) ⟨Nat.le_of_ble_eq_true rfl, Nat.le_of_ble_eq_true rfl⟩ (wMd cI cZ m0 m1 m2 m3 m4 m5 m6 m7 now thn past kept slt held mpad mpl mat ords ordn) rfl rfl dX5_ofMissing_11 (fun H locs h => ?_)
  refine lv_if_ne (tgt := 19) hx hb dX5_ofMissing_14 (by decide) (fun hc => ?_) (fun hc => ?_)
  · replace hf := it_f hf hc
    refine lv_iload_n hx hb dX5_ofMissing_19 rfl (lv_at hl 2 rfl) ?_
    refine lv_iconst (v := 0) hx hb dX5_ofMissing_20 (by decide) ?_
    refine lv_iconst (v := 3) hx hb dX5_ofMissing_21 (by decide) ?_
    obtain ⟨r_3, hq_4, hf⟩ := ob1_use hf
    refine r_callS C h (cw_X5_ofMissing_X5_in_40 C.hts) (rest := []) (c_X5_in l G cI cC cZ X x2 (0 : Int32) (3 : Int32) r_3 hq_4) [] rfl rfl rfl rfl hl.1 rfl (Nat.le_of_ble_eq_true rfl) ⟨Nat.le_of_ble_eq_true rfl, Nat.le_of_ble_eq_true rfl⟩ (wMd cI cZ m0 m1 m2 m3 m4 m5 m6 m7 now thn past kept slt held mpad mpl mat ords ordn) rfl rfl dX5_ofMissing_22 (fun H locs h => ?_)
    refine lv_if_eq (tgt := 45) hx hb dX5_ofMissing_25 (by decide) (fun hc => ?_) (fun hc => ?_)
    · replace hf := it_t hf hc
      refine lv_bipush (v := (-2)) hx hb dX5_ofMissing_45 (by decide) ?_
      cases hf
      exact r_iret C h hr hlocks dX5_ofMissing_47
    · replace hf := it_f hf hc
      refine lv_aload_n hx hb dX5_ofMissing_28 rfl (lv_at hl 0 rfl) ?_
      refine r_get C h 0 0 (ci := 5) (N := 11) (Cn := RX5) (T := TX5) rfl rfl (by decide) in_X5_ofMissing_X5 lk_X5_ofMissing_7 rfl dX5_ofMissing_29 ?_
      refine lv_sipush (v := 202) hx hb dX5_ofMissing_32 (by decide) ?_
      refine lv_iconst (v := 4) hx hb dX5_ofMissing_35 (by decide) ?_
      refine lv_iload_n hx hb dX5_ofMissing_36 rfl (lv_at hl 1 rfl) ?_
      refine lv_imul hx hb dX5_ofMissing_37 ?_
      refine lv_iadd hx hb dX5_ofMissing_38 ?_
      refine lv_iload_n hx hb dX5_ofMissing_39 rfl (lv_at hl 2 rfl) ?_
      refine lv_iadd hx hb dX5_ofMissing_40 ?_
      obtain ⟨j_5, hj_5, hf⟩ := chk_use hf
      refine r_ald C h 1 rfl rfl hj_5 dX5_ofMissing_41 ?_
      refine lv_goto (tgt := 47) hx hb dX5_ofMissing_42 (by decide) ?_
      cases hf
      exact r_iret C h hr hlocks dX5_ofMissing_47
  · replace hf := it_t hf hc
    refine lv_iconst (v := (-1)) hx hb dX5_ofMissing_17 (by decide) ?_
    cases hf
    exact r_iret C h hr hlocks dX5_ofMissing_18
def rm_X5_count : Room := { frames := 1, cells := 0, slots := 0, locals := 22 }
set_option maxRecDepth 20000 in
theorem lk_X5_count_32 : Cond.fieldLink RX5 32 "LineDoublerModel" "kept" "I" ∈ wsX5_count := List.mem_of_getElem? (i := 3) (by decide +kernel)
set_option maxRecDepth 20000 in
theorem lk_X5_count_112 : Cond.fieldLink RX5 112 "LineDoublerModel" "padded" "I" ∈ wsX5_count := List.mem_of_getElem? (i := 2) (by decide +kernel)
set_option maxRecDepth 20000 in
theorem lk_X5_count_7 : Cond.fieldLink RX5 7 "LineDoublerModel" "now" "[I" ∈ wsX5_count := List.mem_of_getElem? (i := 1) (by decide +kernel)
set_option maxRecDepth 20000 in
theorem in_X5_count_X5 : ∀ x ∈ wsX50, x ∈ wsX5_count := mem_r _ [8, 9, 10, 11, 12, 13, 14, 15, 16, 17, 18] (by decide +kernel)
set_option maxRecDepth 20000 in
theorem cw_X5_count_X5_in_40 {s : State} {args : Array Value} (hts : ∀ w ∈ wsX5_count, w.before args s = true) : CallB rm_X5_count s args RX5 40 yX5_in cX5_in 3 (some .boolean) wsX5_in rm_X5_in 0 0 3 ∧ (Cond.static yX5_in).before args s = true :=
  va_cwS 3 hts gX5_count_X5_in rfl rfl rfl (by decide +kernel) ⟨Nat.le_of_ble_eq_true rfl, Nat.le_of_ble_eq_true rfl⟩
set_option maxHeartbeats 4000000 in
set_option maxRecDepth 100000 in
theorem c_X5_count (l : Launch) (G : va_G) (cI cC cZ : ClassId) (X : List (ClassId × FieldType)) (m0 m1 m2 m3 m4 m5 m6 m7 : Nat) (now : Nat → Int32) (thn : Nat → Int32) (past : Nat → Int32) (kept : Int32) (slt : Nat → Int32) (held : Nat → Int32) (mpad : Nat → Int32) (mpl : Int32) (mat : Int32) (ords : Nat → Int32) (ordn : Int32) (x1 : Int32) (rv : Int32) (hf : fX5_count now kept mpl x1 = some (rv)) : CT l yX5_count wsX5_count rm_X5_count G (TY cI cC cZ X) [.ref m0, .int x1] (wMd cI cZ m0 m1 m2 m3 m4 m5 m6 m7 now thn past kept slt held mpad mpl mat ords ordn) (some (.int rv)) (wMd cI cZ m0 m1 m2 m3 m4 m5 m6 m7 now thn past kept slt held mpad mpl mat ords ordn) := by
  refine CT.of (cc := cX5_count) (maxL := 2) (ret := (some .int)) RX5 rfl (by decide) rfl (Nat.le_of_ble_eq_true rfl) ?_
  intro p e s m args below meth c A ls C hr hlocks hnm h hl
  have hx := C.hx
  have hb := C.hb
  have hl : lv_has ls 2 [(0, .ref m0), (1, .int x1)] := hl
  unfold fX5_count at hf
  refine lv_iload_n hx hb dX5_count_0 rfl (lv_at hl 1 rfl) ?_
  refine lv_iconst (v := 0) hx hb dX5_count_1 (by decide) ?_
  refine lv_bipush (v := 25) hx hb dX5_count_2 (by decide) ?_
  obtain ⟨r_1, hq_2, hf⟩ := ob1_use hf
  refine r_callS C h (cw_X5_count_X5_in_40 C.hts) (rest := []) (c_X5_in l G cI cC cZ X x1 (0 : Int32) (25 : Int32) r_1 hq_2) [] rfl rfl rfl rfl hl.1 rfl (Nat.le_of_ble_eq_true rfl) ⟨Nat.le_of_ble_eq_true rfl, Nat.le_of_ble_eq_true rfl⟩ (wMd cI cZ m0 m1 m2 m3 m4 m5 m6 m7 now thn past kept slt held mpad mpl mat ords ordn) rfl rfl dX5_count_4 (fun H locs h => ?_)
  refine lv_if_ne (tgt := 13) hx hb dX5_count_7 (by decide) (fun hc => ?_) (fun hc => ?_)
  · replace hf := it_f hf hc
    refine lv_iload_n hx hb dX5_count_13 rfl (lv_at hl 1 rfl) ?_
    refine lv_bipush (v := 16) hx hb dX5_count_14 (by decide) ?_
    refine lv_icmp_ge (tgt := 44) hx hb dX5_count_16 (by decide) (fun hc => ?_) (fun hc => ?_)
    · replace hf := it_t hf hc
      refine lv_iload_n hx hb dX5_count_44 rfl (lv_at hl 1 rfl) ?_
      refine lv_bipush (v := 24) hx hb dX5_count_45 (by decide) ?_
      refine lv_icmp_ge (tgt := 64) hx hb dX5_count_47 (by decide) (fun hc => ?_) (fun hc => ?_)
      · replace hf := it_t hf hc
        refine lv_iload_n hx hb dX5_count_64 rfl (lv_at hl 1 rfl) ?_
        refine lv_bipush (v := 24) hx hb dX5_count_65 (by decide) ?_
        refine lv_icmp_ne (tgt := 77) hx hb dX5_count_67 (by decide) (fun hc => ?_) (fun hc => ?_)
        · replace hf := it_f hf hc
          refine lv_aload_n hx hb dX5_count_77 rfl (lv_at hl 0 rfl) ?_
          refine r_get C h 0 3 (ci := 5) (N := 11) (Cn := RX5) (T := TX5) rfl rfl (by decide) in_X5_count_X5 lk_X5_count_32 rfl dX5_count_78 ?_
          cases hf
          exact r_iret C h hr hlocks dX5_count_81
        · replace hf := it_t hf hc
          refine lv_aload_n hx hb dX5_count_70 rfl (lv_at hl 0 rfl) ?_
          refine r_get C h 0 7 (ci := 5) (N := 11) (Cn := RX5) (T := TX5) rfl rfl (by decide) in_X5_count_X5 lk_X5_count_112 rfl dX5_count_71 ?_
          refine lv_goto (tgt := 81) hx hb dX5_count_74 (by decide) ?_
          cases hf
          exact r_iret C h hr hlocks dX5_count_81
      · replace hf := it_f hf hc
        refine lv_aload_n hx hb dX5_count_50 rfl (lv_at hl 0 rfl) ?_
        refine r_get C h 0 0 (ci := 5) (N := 11) (Cn := RX5) (T := TX5) rfl rfl (by decide) in_X5_count_X5 lk_X5_count_7 rfl dX5_count_51 ?_
        refine lv_iconst (v := 1) hx hb dX5_count_54 (by decide) ?_
        refine lv_iload_n hx hb dX5_count_55 rfl (lv_at hl 1 rfl) ?_
        refine lv_iadd hx hb dX5_count_56 ?_
        refine lv_bipush (v := 16) hx hb dX5_count_57 (by decide) ?_
        refine lv_isub hx hb dX5_count_59 ?_
        obtain ⟨j_3, hj_3, hf⟩ := chk_use hf
        refine r_ald C h 1 rfl rfl hj_3 dX5_count_60 ?_
        refine lv_goto (tgt := 81) hx hb dX5_count_61 (by decide) ?_
        cases hf
        exact r_iret C h hr hlocks dX5_count_81
    · replace hf := it_f hf hc
      refine lv_iload_n hx hb dX5_count_19 rfl (lv_at hl 1 rfl) ?_
      refine lv_if_ne (tgt := 32) hx hb dX5_count_20 (by decide) (fun hc => ?_) (fun hc => ?_)
      · replace hf := it_f hf hc
        refine lv_aload_n hx hb dX5_count_32 rfl (lv_at hl 0 rfl) ?_
        refine r_get C h 0 0 (ci := 5) (N := 11) (Cn := RX5) (T := TX5) rfl rfl (by decide) in_X5_count_X5 lk_X5_count_7 rfl dX5_count_33 ?_
        refine lv_bipush (v := 9) hx hb dX5_count_36 (by decide) ?_
        refine lv_iload_n hx hb dX5_count_38 rfl (lv_at hl 1 rfl) ?_
        refine lv_iadd hx hb dX5_count_39 ?_
        refine lv_iconst (v := 1) hx hb dX5_count_40 (by decide) ?_
        refine lv_isub hx hb dX5_count_41 ?_
        obtain ⟨j_4, hj_4, hf⟩ := chk_use hf
        refine r_ald C h 1 rfl rfl hj_4 dX5_count_42 ?_
        cases hf
        exact r_iret C h hr hlocks dX5_count_43
      · replace hf := it_t hf hc
        refine lv_aload_n hx hb dX5_count_23 rfl (lv_at hl 0 rfl) ?_
        refine r_get C h 0 0 (ci := 5) (N := 11) (Cn := RX5) (T := TX5) rfl rfl (by decide) in_X5_count_X5 lk_X5_count_7 rfl dX5_count_24 ?_
        refine lv_iconst (v := 0) hx hb dX5_count_27 (by decide) ?_
        refine r_ald C h 1 rfl rfl k_0_234 dX5_count_28 ?_
        refine lv_goto (tgt := 43) hx hb dX5_count_29 (by decide) ?_
        cases hf
        exact r_iret C h hr hlocks dX5_count_43
  · replace hf := it_t hf hc
    refine lv_bipush (v := (-2)) hx hb dX5_count_10 (by decide) ?_
    cases hf
    exact r_iret C h hr hlocks dX5_count_12
def rm_X5_shown : Room := { frames := 0, cells := 0, slots := 0, locals := 0 }
set_option maxRecDepth 20000 in
theorem lk_X5_shown_7 : Cond.fieldLink RX5 7 "LineDoublerModel" "now" "[I" ∈ wsX5_shown := List.mem_of_getElem? (i := 1) (by decide +kernel)
set_option maxRecDepth 20000 in
theorem in_X5_shown_X5 : ∀ x ∈ wsX50, x ∈ wsX5_shown := mem_r _ [2, 3, 4, 5, 6, 7, 8, 9, 10, 11, 12] (by decide +kernel)
set_option maxHeartbeats 4000000 in
set_option maxRecDepth 100000 in
theorem c_X5_shown (l : Launch) (G : va_G) (cI cC cZ : ClassId) (X : List (ClassId × FieldType)) (m0 m1 m2 m3 m4 m5 m6 m7 : Nat) (now : Nat → Int32) (thn : Nat → Int32) (past : Nat → Int32) (kept : Int32) (slt : Nat → Int32) (held : Nat → Int32) (mpad : Nat → Int32) (mpl : Int32) (mat : Int32) (ords : Nat → Int32) (ordn : Int32) (rv : Int32) (hf : fX5_shown now = some (rv)) : CT l yX5_shown wsX5_shown rm_X5_shown G (TY cI cC cZ X) [.ref m0] (wMd cI cZ m0 m1 m2 m3 m4 m5 m6 m7 now thn past kept slt held mpad mpl mat ords ordn) (some (.int rv)) (wMd cI cZ m0 m1 m2 m3 m4 m5 m6 m7 now thn past kept slt held mpad mpl mat ords ordn) := by
  refine CT.of (cc := cX5_shown) (maxL := 2) (ret := (some .int)) RX5 rfl (by decide) rfl (Nat.le_of_ble_eq_true rfl) ?_
  intro p e s m args below meth c A ls C hr hlocks hnm h hl
  have hx := C.hx
  have hb := C.hb
  have hl : lv_has ls 2 [(0, .ref m0)] := hl
  have cut_2 : ∀ (n : Nat) (x1 : Int32) (H : Heap) (locs : List Loc) (ls : Array Slot), Hx s G A (wMd cI cZ m0 m1 m2 m3 m4 m5 m6 m7 now thn past kept slt held mpad mpl mat ords ordn) H locs → lv_has ls 2 [(0, .ref m0), (1, .int x1)] → fX5_shown_2 n now x1 = some (rv) → W p l e rm_X5_shown s m args below meth c H locs 0 0 (MQ below (Qx G (some (.int rv)) (wMd cI cZ m0 m1 m2 m3 m4 m5 m6 m7 now thn past kept slt held mpad mpl mat ords ordn) A) args s 0 0 A) (F0 m 2 ls []) := by
    intro n
    induction n with
    | zero =>
      intro x1 H locs ls h hl hf
      exact (nn_some _ hf).elim
    | succ n ih =>
      intro x1 H locs ls h hl hf
      have hf : fX5_shown_2_b (fX5_shown_2 n) now x1 = some (rv) := hf
      unfold fX5_shown_2_b at hf
      refine lv_iload_n hx hb dX5_shown_2 rfl (lv_at hl 1 rfl) ?_
      refine lv_iconst (v := 2) hx hb dX5_shown_3 (by decide) ?_
      refine lv_aload_n hx hb dX5_shown_4 rfl (lv_at hl 0 rfl) ?_
      refine r_get C h 0 0 (ci := 5) (N := 11) (Cn := RX5) (T := TX5) rfl rfl (by decide) in_X5_shown_X5 lk_X5_shown_7 rfl dX5_shown_5 ?_
      refine lv_iconst (v := 4) hx hb dX5_shown_8 (by decide) ?_
      refine r_ald C h 1 rfl rfl k_4_234 dX5_shown_9 ?_
      refine lv_imul hx hb dX5_shown_10 ?_
      refine lv_icmp_ge (tgt := 38) hx hb dX5_shown_11 (by decide) (fun hc => ?_) (fun hc => ?_)
      · replace hf := it_t hf hc
        refine lv_iload_n hx hb dX5_shown_38 rfl (lv_at hl 1 rfl) ?_
        cases hf
        exact r_iret C h hr hlocks dX5_shown_39
      · replace hf := it_f hf hc
        refine lv_aload_n hx hb dX5_shown_14 rfl (lv_at hl 0 rfl) ?_
        refine r_get C h 0 0 (ci := 5) (N := 11) (Cn := RX5) (T := TX5) rfl rfl (by decide) in_X5_shown_X5 lk_X5_shown_7 rfl dX5_shown_15 ?_
        refine lv_bipush (v := 106) hx hb dX5_shown_18 (by decide) ?_
        refine lv_iconst (v := 3) hx hb dX5_shown_20 (by decide) ?_
        refine lv_iload_n hx hb dX5_shown_21 rfl (lv_at hl 1 rfl) ?_
        refine lv_imul hx hb dX5_shown_22 ?_
        refine lv_iadd hx hb dX5_shown_23 ?_
        refine lv_iconst (v := 1) hx hb dX5_shown_24 (by decide) ?_
        refine lv_iadd hx hb dX5_shown_25 ?_
        obtain ⟨j_1, hj_1, hf⟩ := chk_use hf
        refine r_ald C h 1 rfl rfl hj_1 dX5_shown_26 ?_
        refine lv_bipush (v := (-6)) hx hb dX5_shown_27 (by decide) ?_
        refine lv_icmp_eq (tgt := 38) hx hb dX5_shown_29 (by decide) (fun hc => ?_) (fun hc => ?_)
        · replace hf := it_t hf hc
          refine lv_iload_n hx hb dX5_shown_38 rfl (lv_at hl 1 rfl) ?_
          cases hf
          exact r_iret C h hr hlocks dX5_shown_39
        · replace hf := it_f hf hc
          obtain ⟨x1_2, ex1_2⟩ : ∃ y : Int32, y = x1 + 1 := ⟨_, rfl⟩
          replace hf := nm_use hf ex1_2
          refine lv_iinc (v := x1_2) (lv' := [(1, .int x1_2), (0, .ref m0)]) hx hb dX5_shown_32 hl (k := 1) rfl (by rw [ex1_2]; rfl) (by decide) rfl (fun ls hl => ?_)
          refine lv_goto (tgt := 2) hx hb dX5_shown_35 (by decide) ?_
          exact ih x1_2 _ _ _ h (lv_sub hl [1, 0] rfl) hf
  unfold fX5_shown at hf
  refine lv_iconst (v := 0) hx hb dX5_shown_0 (by decide) ?_
  refine lv_istore_n (lv' := [(1, .int 0), (0, .ref m0)]) hx hb dX5_shown_1 rfl hl (by decide) rfl (fun ls hl => ?_)
  exact cut_2 KF 0 _ _ _ h (lv_sub hl [1, 0] rfl) hf
def rm_X5_tries : Room := { frames := 1, cells := 0, slots := 0, locals := 24 }
set_option maxRecDepth 20000 in
theorem lk_X5_tries_7 : Cond.fieldLink RX5 7 "LineDoublerModel" "now" "[I" ∈ wsX5_tries := List.mem_of_getElem? (i := 1) (by decide +kernel)
set_option maxRecDepth 20000 in
theorem lk_X5_tries_13 : Cond.fieldLink RX5 13 "LineDoublerModel" "then" "[I" ∈ wsX5_tries := List.mem_of_getElem? (i := 2) (by decide +kernel)
set_option maxRecDepth 20000 in
theorem in_X5_tries_X5 : ∀ x ∈ wsX50, x ∈ wsX5_tries := mem_r _ [7, 8, 9, 10, 11, 12, 13, 14, 15, 16, 17] (by decide +kernel)
set_option maxRecDepth 20000 in
theorem cw_X5_tries_X5_lays_36 {s : State} {args : Array Value} (hts : ∀ w ∈ wsX5_tries, w.before args s = true) : CallB rm_X5_tries s args RX5 36 yX5_lays cX5_lays 5 none wsX5_lays rm_X5_lays 0 0 4 ∧ (Cond.static yX5_lays).before args s = true :=
  va_cwS 4 hts gX5_tries_X5_lays rfl rfl rfl (by decide +kernel) ⟨Nat.le_of_ble_eq_true rfl, Nat.le_of_ble_eq_true rfl⟩
set_option maxHeartbeats 4000000 in
set_option maxRecDepth 100000 in
theorem c_X5_tries (l : Launch) (G : va_G) (cI cC cZ : ClassId) (X : List (ClassId × FieldType)) (m0 m1 m2 m3 m4 m5 m6 m7 : Nat) (now : Nat → Int32) (thn : Nat → Int32) (past : Nat → Int32) (kept : Int32) (slt : Nat → Int32) (held : Nat → Int32) (mpad : Nat → Int32) (mpl : Int32) (mat : Int32) (ords : Nat → Int32) (ordn : Int32) (thn' : Nat → Int32) (hf : fX5_tries now thn = some (thn')) : CT l yX5_tries wsX5_tries rm_X5_tries G (TY cI cC cZ X) [.ref m0] (wMd cI cZ m0 m1 m2 m3 m4 m5 m6 m7 now thn past kept slt held mpad mpl mat ords ordn) none (wMd cI cZ m0 m1 m2 m3 m4 m5 m6 m7 now thn' past kept slt held mpad mpl mat ords ordn) := by
  refine CT.of (cc := cX5_tries) (maxL := 1) (ret := none) RX5 rfl (by decide) rfl (Nat.le_of_ble_eq_true rfl) ?_
  intro p e s m args below meth c A ls C hr hlocks hnm h hl
  have hx := C.hx
  have hb := C.hb
  have hl : lv_has ls 1 [(0, .ref m0)] := hl
  unfold fX5_tries at hf
  refine lv_aload_n hx hb dX5_tries_0 rfl (lv_at hl 0 rfl) ?_
  refine r_get C h 0 0 (ci := 5) (N := 11) (Cn := RX5) (T := TX5) rfl rfl (by decide) in_X5_tries_X5 lk_X5_tries_7 rfl dX5_tries_1 ?_
  refine lv_iconst (v := 0) hx hb dX5_tries_4 (by decide) ?_
  refine lv_aload_n hx hb dX5_tries_5 rfl (lv_at hl 0 rfl) ?_
  refine r_get C h 0 1 (ci := 5) (N := 11) (Cn := RX5) (T := TX5) rfl rfl (by decide) in_X5_tries_X5 lk_X5_tries_13 rfl dX5_tries_6 ?_
  refine lv_iconst (v := 0) hx hb dX5_tries_9 (by decide) ?_
  obtain ⟨thn_1, hq_2, hf⟩ := ob1_use hf
  refine r_callS C h (cw_X5_tries_X5_lays_36 C.hts) (rest := []) (c_X5_lays l G cI cC cZ X m1 m2 234 now 234 thn (0 : Int32) (0 : Int32) thn_1 hq_2) [1, 2] rfl rfl rfl rfl hl.1 rfl (Nat.le_of_ble_eq_true rfl) ⟨Nat.le_of_ble_eq_true rfl, Nat.le_of_ble_eq_true rfl⟩ (wMd cI cZ m0 m1 m2 m3 m4 m5 m6 m7 now thn_1 past kept slt held mpad mpl mat ords ordn) rfl rfl dX5_tries_10 (fun H locs h => ?_)
  cases hf
  exact r_vret C h hr hlocks dX5_tries_13
def rm_X5_more : Room := { frames := 0, cells := 0, slots := 0, locals := 0 }
set_option maxRecDepth 20000 in
theorem lk_X5_more_13 : Cond.fieldLink RX5 13 "LineDoublerModel" "then" "[I" ∈ wsX5_more := List.mem_of_getElem? (i := 1) (by decide +kernel)
set_option maxRecDepth 20000 in
theorem lk_X5_more_7 : Cond.fieldLink RX5 7 "LineDoublerModel" "now" "[I" ∈ wsX5_more := List.mem_of_getElem? (i := 2) (by decide +kernel)
set_option maxRecDepth 20000 in
theorem in_X5_more_X5 : ∀ x ∈ wsX50, x ∈ wsX5_more := mem_r _ [3, 4, 5, 6, 7, 8, 9, 10, 11, 12, 13] (by decide +kernel)
set_option maxHeartbeats 4000000 in
set_option maxRecDepth 100000 in
theorem c_X5_more (l : Launch) (G : va_G) (cI cC cZ : ClassId) (X : List (ClassId × FieldType)) (m0 m1 m2 m3 m4 m5 m6 m7 : Nat) (now : Nat → Int32) (thn : Nat → Int32) (past : Nat → Int32) (kept : Int32) (slt : Nat → Int32) (held : Nat → Int32) (mpad : Nat → Int32) (mpl : Int32) (mat : Int32) (ords : Nat → Int32) (ordn : Int32) (x1 : Int32) (rv : Int32) (hf : fX5_more now thn x1 = some (rv)) : CT l yX5_more wsX5_more rm_X5_more G (TY cI cC cZ X) [.ref m0, .int x1] (wMd cI cZ m0 m1 m2 m3 m4 m5 m6 m7 now thn past kept slt held mpad mpl mat ords ordn) (some (.int rv)) (wMd cI cZ m0 m1 m2 m3 m4 m5 m6 m7 now thn past kept slt held mpad mpl mat ords ordn) := by
  refine CT.of (cc := cX5_more) (maxL := 3) (ret := (some .int)) RX5 rfl (by decide) rfl (Nat.le_of_ble_eq_true rfl) ?_
  intro p e s m args below meth c A ls C hr hlocks hnm h hl
  have hx := C.hx
  have hb := C.hb
  have hl : lv_has ls 3 [(0, .ref m0), (1, .int x1)] := hl
  unfold fX5_more at hf
  refine lv_iload_n hx hb dX5_more_0 rfl (lv_at hl 1 rfl) ?_
  refine lv_if_ne (tgt := 9) hx hb dX5_more_1 (by decide) (fun hc => ?_) (fun hc => ?_)
  · replace hf := it_f hf hc
    refine lv_iload_n hx hb dX5_more_9 rfl (lv_at hl 1 rfl) ?_
    refine lv_iconst (v := 1) hx hb dX5_more_10 (by decide) ?_
    refine lv_icmp_ne (tgt := 19) hx hb dX5_more_11 (by decide) (fun hc => ?_) (fun hc => ?_)
    · replace hf := it_f hf hc
      refine lv_bipush (v := 20) hx hb dX5_more_19 (by decide) ?_
      refine lv_istore_n (lv' := [(2, .int 20), (0, .ref m0), (1, .int x1)]) hx hb dX5_more_21 rfl hl (by decide) rfl (fun ls hl => ?_)
      refine lv_aload_n hx hb dX5_more_22 rfl (lv_at hl 1 rfl) ?_
      refine r_get C h 0 1 (ci := 5) (N := 11) (Cn := RX5) (T := TX5) rfl rfl (by decide) in_X5_more_X5 lk_X5_more_13 rfl dX5_more_23 ?_
      refine lv_iload_n hx hb dX5_more_26 rfl (lv_at hl 0 rfl) ?_
      refine r_ald C h 2 rfl rfl k_20_234 dX5_more_27 ?_
      refine lv_aload_n hx hb dX5_more_28 rfl (lv_at hl 1 rfl) ?_
      refine r_get C h 0 0 (ci := 5) (N := 11) (Cn := RX5) (T := TX5) rfl rfl (by decide) in_X5_more_X5 lk_X5_more_7 rfl dX5_more_29 ?_
      refine lv_iload_n hx hb dX5_more_32 rfl (lv_at hl 0 rfl) ?_
      refine r_ald C h 1 rfl rfl k_20_234 dX5_more_33 ?_
      refine lv_isub hx hb dX5_more_34 ?_
      cases hf
      exact r_iret C h hr hlocks dX5_more_35
    · replace hf := it_t hf hc
      refine lv_bipush (v := 14) hx hb dX5_more_14 (by decide) ?_
      refine lv_goto (tgt := 21) hx hb dX5_more_16 (by decide) ?_
      refine lv_istore_n (lv' := [(2, .int 14), (0, .ref m0), (1, .int x1)]) hx hb dX5_more_21 rfl hl (by decide) rfl (fun ls hl => ?_)
      refine lv_aload_n hx hb dX5_more_22 rfl (lv_at hl 1 rfl) ?_
      refine r_get C h 0 1 (ci := 5) (N := 11) (Cn := RX5) (T := TX5) rfl rfl (by decide) in_X5_more_X5 lk_X5_more_13 rfl dX5_more_23 ?_
      refine lv_iload_n hx hb dX5_more_26 rfl (lv_at hl 0 rfl) ?_
      refine r_ald C h 2 rfl rfl k_14_234 dX5_more_27 ?_
      refine lv_aload_n hx hb dX5_more_28 rfl (lv_at hl 1 rfl) ?_
      refine r_get C h 0 0 (ci := 5) (N := 11) (Cn := RX5) (T := TX5) rfl rfl (by decide) in_X5_more_X5 lk_X5_more_7 rfl dX5_more_29 ?_
      refine lv_iload_n hx hb dX5_more_32 rfl (lv_at hl 0 rfl) ?_
      refine r_ald C h 1 rfl rfl k_14_234 dX5_more_33 ?_
      refine lv_isub hx hb dX5_more_34 ?_
      cases hf
      exact r_iret C h hr hlocks dX5_more_35
  · replace hf := it_t hf hc
    refine lv_bipush (v := 12) hx hb dX5_more_4 (by decide) ?_
    refine lv_goto (tgt := 21) hx hb dX5_more_6 (by decide) ?_
    refine lv_istore_n (lv' := [(2, .int 12), (0, .ref m0), (1, .int x1)]) hx hb dX5_more_21 rfl hl (by decide) rfl (fun ls hl => ?_)
    refine lv_aload_n hx hb dX5_more_22 rfl (lv_at hl 1 rfl) ?_
    refine r_get C h 0 1 (ci := 5) (N := 11) (Cn := RX5) (T := TX5) rfl rfl (by decide) in_X5_more_X5 lk_X5_more_13 rfl dX5_more_23 ?_
    refine lv_iload_n hx hb dX5_more_26 rfl (lv_at hl 0 rfl) ?_
    refine r_ald C h 2 rfl rfl k_12_234 dX5_more_27 ?_
    refine lv_aload_n hx hb dX5_more_28 rfl (lv_at hl 1 rfl) ?_
    refine r_get C h 0 0 (ci := 5) (N := 11) (Cn := RX5) (T := TX5) rfl rfl (by decide) in_X5_more_X5 lk_X5_more_7 rfl dX5_more_29 ?_
    refine lv_iload_n hx hb dX5_more_32 rfl (lv_at hl 0 rfl) ?_
    refine r_ald C h 1 rfl rfl k_12_234 dX5_more_33 ?_
    refine lv_isub hx hb dX5_more_34 ?_
    cases hf
    exact r_iret C h hr hlocks dX5_more_35
def rm_X5_would : Room := { frames := 5, cells := 0, slots := 0, locals := 110 }
set_option maxRecDepth 20000 in
theorem lk_X5_would_13 : Cond.fieldLink RX5 13 "LineDoublerModel" "then" "[I" ∈ wsX5_would := List.mem_of_getElem? (i := 1) (by decide +kernel)
set_option maxRecDepth 20000 in
theorem in_X5_would_X5 : ∀ x ∈ wsX50, x ∈ wsX5_would := mem_r _ [57, 58, 59, 60, 61, 62, 63, 64, 65, 66, 67] (by decide +kernel)
set_option maxRecDepth 20000 in
theorem cw_X5_would_X5_areTicks_127 {s : State} {args : Array Value} (hts : ∀ w ∈ wsX5_would, w.before args s = true) : CallB rm_X5_would s args RX5 127 yX5_areTicks cX5_areTicks 1 (some .boolean) wsX5_areTicks rm_X5_areTicks 0 0 1 ∧ (Cond.static yX5_areTicks).before args s = true :=
  va_cwS 1 hts gX5_would_X5_areTicks rfl rfl rfl (by decide +kernel) ⟨Nat.le_of_ble_eq_true rfl, Nat.le_of_ble_eq_true rfl⟩
set_option maxRecDepth 20000 in
theorem cw_X5_would_X5_in_40 {s : State} {args : Array Value} (hts : ∀ w ∈ wsX5_would, w.before args s = true) : CallB rm_X5_would s args RX5 40 yX5_in cX5_in 3 (some .boolean) wsX5_in rm_X5_in 0 0 3 ∧ (Cond.static yX5_in).before args s = true :=
  va_cwS 3 hts gX5_would_X5_in rfl rfl rfl (by decide +kernel) ⟨Nat.le_of_ble_eq_true rfl, Nat.le_of_ble_eq_true rfl⟩
set_option maxRecDepth 20000 in
theorem cw_X5_would_X5_tries_131 {s : State} {args : Array Value} (hts : ∀ w ∈ wsX5_would, w.before args s = true) : CallW rm_X5_would s args RX5 RX5 131 yX5_tries cX5_tries 1 none wsX5_tries rm_X5_tries 0 0 0 :=
  cwV 0 hts gX5_would_X5_tries rfl rfl rfl (by decide +kernel) ⟨Nat.le_of_ble_eq_true rfl, Nat.le_of_ble_eq_true rfl⟩
set_option maxRecDepth 20000 in
theorem cw_X5_would_X5_passes_109 {s : State} {args : Array Value} (hts : ∀ w ∈ wsX5_would, w.before args s = true) : CallB rm_X5_would s args RX5 109 yX5_passes cX5_passes 3 none wsX5_passes rm_X5_passes 0 0 2 ∧ (Cond.static yX5_passes).before args s = true :=
  va_cwS 2 hts gX5_would_X5_passes rfl rfl rfl (by decide +kernel) ⟨Nat.le_of_ble_eq_true rfl, Nat.le_of_ble_eq_true rfl⟩
set_option maxRecDepth 20000 in
theorem cw_X5_would_X5_more_134 {s : State} {args : Array Value} (hts : ∀ w ∈ wsX5_would, w.before args s = true) : CallW rm_X5_would s args RX5 RX5 134 yX5_more cX5_more 3 (some .int) wsX5_more rm_X5_more 0 0 1 :=
  cwV 1 hts gX5_would_X5_more rfl rfl rfl (by decide +kernel) ⟨Nat.le_of_ble_eq_true rfl, Nat.le_of_ble_eq_true rfl⟩
set_option maxHeartbeats 4000000 in
set_option maxRecDepth 100000 in
theorem c_X5_would (l : Launch) (G : va_G) (cI cC cZ : ClassId) (X : List (ClassId × FieldType)) (m0 m1 m2 m3 m4 m5 m6 m7 : Nat) (now : Nat → Int32) (thn : Nat → Int32) (past : Nat → Int32) (kept : Int32) (slt : Nat → Int32) (held : Nat → Int32) (mpad : Nat → Int32) (mpl : Int32) (mat : Int32) (ords : Nat → Int32) (ordn : Int32) (x1 : Int32) (x2 : Int32) (rv : Int32) (thn' : Nat → Int32) (hf : fX5_would now thn x1 x2 = some (rv, thn')) : CT l yX5_would wsX5_would rm_X5_would G (TY cI cC cZ X) [.ref m0, .int x1, .int x2] (wMd cI cZ m0 m1 m2 m3 m4 m5 m6 m7 now thn past kept slt held mpad mpl mat ords ordn) (some (.int rv)) (wMd cI cZ m0 m1 m2 m3 m4 m5 m6 m7 now thn' past kept slt held mpad mpl mat ords ordn) := by
  refine CT.of (cc := cX5_would) (maxL := 3) (ret := (some .int)) RX5 rfl (by decide) rfl (Nat.le_of_ble_eq_true rfl) ?_
  intro p e s m args below meth c A ls C hr hlocks hnm h hl
  have hx := C.hx
  have hb := C.hb
  have hl : lv_has ls 3 [(0, .ref m0), (1, .int x1), (2, .int x2)] := hl
  unfold fX5_would at hf
  refine lv_iload_n hx hb dX5_would_0 rfl (lv_at hl 1 rfl) ?_
  obtain ⟨r_1, hq_2, hf⟩ := ob1_use hf
  refine r_callS C h (cw_X5_would_X5_areTicks_127 C.hts) (rest := []) (c_X5_areTicks l G cI cC cZ X x1 r_1 hq_2) [] rfl rfl rfl rfl hl.1 rfl (Nat.le_of_ble_eq_true rfl) ⟨Nat.le_of_ble_eq_true rfl, Nat.le_of_ble_eq_true rfl⟩ (wMd cI cZ m0 m1 m2 m3 m4 m5 m6 m7 now thn past kept slt held mpad mpl mat ords ordn) rfl rfl dX5_would_1 (fun H locs h => ?_)
  refine lv_if_eq (tgt := 16) hx hb dX5_would_4 (by decide) (fun hc => ?_) (fun hc => ?_)
  · replace hf := it_t hf hc
    refine lv_bipush (v := (-2)) hx hb dX5_would_16 (by decide) ?_
    cases hf
    exact r_iret C h hr hlocks dX5_would_18
  · replace hf := it_f hf hc
    refine lv_iload_n hx hb dX5_would_7 rfl (lv_at hl 2 rfl) ?_
    refine lv_iconst (v := 0) hx hb dX5_would_8 (by decide) ?_
    refine lv_iconst (v := 2) hx hb dX5_would_9 (by decide) ?_
    obtain ⟨r_3, hq_4, hf⟩ := ob1_use hf
    refine r_callS C h (cw_X5_would_X5_in_40 C.hts) (rest := []) (c_X5_in l G cI cC cZ X x2 (0 : Int32) (2 : Int32) r_3 hq_4) [] rfl rfl rfl rfl hl.1 rfl (Nat.le_of_ble_eq_true rfl) ⟨Nat.le_of_ble_eq_true rfl, Nat.le_of_ble_eq_true rfl⟩ (wMd cI cZ m0 m1 m2 m3 m4 m5 m6 m7 now thn past kept slt held mpad mpl mat ords ordn) rfl rfl dX5_would_10 (fun H locs h => ?_)
    refine lv_if_ne (tgt := 19) hx hb dX5_would_13 (by decide) (fun hc => ?_) (fun hc => ?_)
    · replace hf := it_f hf hc
      refine lv_aload_n hx hb dX5_would_19 rfl (lv_at hl 0 rfl) ?_
      obtain ⟨thn_5, hq_6, hf⟩ := ob1_use hf
      refine r_callV C h (cw_X5_would_X5_tries_131 C.hts) (rest := []) (ci := 5) (N := 11) (Cn := RX5) (T := TX5) (c_X5_tries l G cI cC cZ X m0 m1 m2 m3 m4 m5 m6 m7 now thn past kept slt held mpad mpl mat ords ordn thn_5 hq_6) [0, 1, 2, 3, 4, 5, 6, 7] rfl rfl rfl rfl 0 rfl rfl hl.1 rfl (Nat.le_of_ble_eq_true rfl) ⟨Nat.le_of_ble_eq_true rfl, Nat.le_of_ble_eq_true rfl⟩ (wMd cI cZ m0 m1 m2 m3 m4 m5 m6 m7 now thn_5 past kept slt held mpad mpl mat ords ordn) rfl rfl dX5_would_20 (fun H locs h => ?_)
      refine lv_aload_n hx hb dX5_would_23 rfl (lv_at hl 0 rfl) ?_
      refine r_get C h 0 1 (ci := 5) (N := 11) (Cn := RX5) (T := TX5) rfl rfl (by decide) in_X5_would_X5 lk_X5_would_13 rfl dX5_would_24 ?_
      refine lv_iload_n hx hb dX5_would_27 rfl (lv_at hl 1 rfl) ?_
      obtain ⟨thn_7, hq_8, hf⟩ := ob1_use hf
      refine r_callS C h (cw_X5_would_X5_passes_109 C.hts) (rest := []) (c_X5_passes l G cI cC cZ X m2 thn_5 x1 thn_7 hq_8) [2] rfl rfl rfl rfl hl.1 rfl (Nat.le_of_ble_eq_true rfl) ⟨Nat.le_of_ble_eq_true rfl, Nat.le_of_ble_eq_true rfl⟩ (wMd cI cZ m0 m1 m2 m3 m4 m5 m6 m7 now thn_7 past kept slt held mpad mpl mat ords ordn) rfl rfl dX5_would_28 (fun H locs h => ?_)
      refine lv_aload_n hx hb dX5_would_31 rfl (lv_at hl 0 rfl) ?_
      refine lv_iload_n hx hb dX5_would_32 rfl (lv_at hl 2 rfl) ?_
      obtain ⟨r_9, hq_10, hf⟩ := ob1_use hf
      refine r_callV C h (cw_X5_would_X5_more_134 C.hts) (rest := []) (ci := 5) (N := 11) (Cn := RX5) (T := TX5) (c_X5_more l G cI cC cZ X m0 m1 m2 m3 m4 m5 m6 m7 now thn_7 past kept slt held mpad mpl mat ords ordn x2 r_9 hq_10) [0, 1, 2, 3, 4, 5, 6, 7] rfl rfl rfl rfl 0 rfl rfl hl.1 rfl (Nat.le_of_ble_eq_true rfl) ⟨Nat.le_of_ble_eq_true rfl, Nat.le_of_ble_eq_true rfl⟩ (wMd cI cZ m0 m1 m2 m3 m4 m5 m6 m7 now thn_7 past kept slt held mpad mpl mat ords ordn) rfl rfl dX5_would_33 (fun H locs h => ?_)
      cases hf
      exact r_iret C h hr hlocks dX5_would_36
    · replace hf := it_t hf hc
      refine lv_bipush (v := (-2)) hx hb dX5_would_16 (by decide) ?_
      cases hf
      exact r_iret C h hr hlocks dX5_would_18
def rm_X5_leastRoom : Room := { frames := 5, cells := 0, slots := 0, locals := 110 }
set_option maxRecDepth 20000 in
theorem lk_X5_leastRoom_7 : Cond.fieldLink RX5 7 "LineDoublerModel" "now" "[I" ∈ wsX5_leastRoom := List.mem_of_getElem? (i := 1) (by decide +kernel)
set_option maxRecDepth 20000 in
theorem lk_X5_leastRoom_13 : Cond.fieldLink RX5 13 "LineDoublerModel" "then" "[I" ∈ wsX5_leastRoom := List.mem_of_getElem? (i := 2) (by decide +kernel)
set_option maxRecDepth 20000 in
theorem in_X5_leastRoom_X5 : ∀ x ∈ wsX50, x ∈ wsX5_leastRoom := mem_r _ [57, 58, 59, 60, 61, 62, 63, 64, 65, 66, 67] (by decide +kernel)
set_option maxRecDepth 20000 in
theorem cw_X5_leastRoom_X5_areTicks_127 {s : State} {args : Array Value} (hts : ∀ w ∈ wsX5_leastRoom, w.before args s = true) : CallB rm_X5_leastRoom s args RX5 127 yX5_areTicks cX5_areTicks 1 (some .boolean) wsX5_areTicks rm_X5_areTicks 0 0 1 ∧ (Cond.static yX5_areTicks).before args s = true :=
  va_cwS 1 hts gX5_leastRoom_X5_areTicks rfl rfl rfl (by decide +kernel) ⟨Nat.le_of_ble_eq_true rfl, Nat.le_of_ble_eq_true rfl⟩
set_option maxRecDepth 20000 in
theorem cw_X5_leastRoom_X5_tries_131 {s : State} {args : Array Value} (hts : ∀ w ∈ wsX5_leastRoom, w.before args s = true) : CallW rm_X5_leastRoom s args RX5 RX5 131 yX5_tries cX5_tries 1 none wsX5_tries rm_X5_tries 0 0 0 :=
  cwV 0 hts gX5_leastRoom_X5_tries rfl rfl rfl (by decide +kernel) ⟨Nat.le_of_ble_eq_true rfl, Nat.le_of_ble_eq_true rfl⟩
set_option maxRecDepth 20000 in
theorem cw_X5_leastRoom_X5_passes_109 {s : State} {args : Array Value} (hts : ∀ w ∈ wsX5_leastRoom, w.before args s = true) : CallB rm_X5_leastRoom s args RX5 109 yX5_passes cX5_passes 3 none wsX5_passes rm_X5_passes 0 0 2 ∧ (Cond.static yX5_passes).before args s = true :=
  va_cwS 2 hts gX5_leastRoom_X5_passes rfl rfl rfl (by decide +kernel) ⟨Nat.le_of_ble_eq_true rfl, Nat.le_of_ble_eq_true rfl⟩
set_option maxRecDepth 20000 in
theorem cw_X5_leastRoom_X5_more_134 {s : State} {args : Array Value} (hts : ∀ w ∈ wsX5_leastRoom, w.before args s = true) : CallW rm_X5_leastRoom s args RX5 RX5 134 yX5_more cX5_more 3 (some .int) wsX5_more rm_X5_more 0 0 1 :=
  cwV 1 hts gX5_leastRoom_X5_more rfl rfl rfl (by decide +kernel) ⟨Nat.le_of_ble_eq_true rfl, Nat.le_of_ble_eq_true rfl⟩
set_option maxHeartbeats 4000000 in
set_option maxRecDepth 100000 in
theorem c_X5_leastRoom (l : Launch) (G : va_G) (cI cC cZ : ClassId) (X : List (ClassId × FieldType)) (m0 m1 m2 m3 m4 m5 m6 m7 : Nat) (now : Nat → Int32) (thn : Nat → Int32) (past : Nat → Int32) (kept : Int32) (slt : Nat → Int32) (held : Nat → Int32) (mpad : Nat → Int32) (mpl : Int32) (mat : Int32) (ords : Nat → Int32) (ordn : Int32) (x1 : Int32) (rv : Int32) (thn' : Nat → Int32) (hf : fX5_leastRoom now thn x1 = some (rv, thn')) : CT l yX5_leastRoom wsX5_leastRoom rm_X5_leastRoom G (TY cI cC cZ X) [.ref m0, .int x1] (wMd cI cZ m0 m1 m2 m3 m4 m5 m6 m7 now thn past kept slt held mpad mpl mat ords ordn) (some (.int rv)) (wMd cI cZ m0 m1 m2 m3 m4 m5 m6 m7 now thn' past kept slt held mpad mpl mat ords ordn) := by
  refine CT.of (cc := cX5_leastRoom) (maxL := 3) (ret := (some .int)) RX5 rfl (by decide) rfl (Nat.le_of_ble_eq_true rfl) ?_
  intro p e s m args below meth c A ls C hr hlocks hnm h hl
  have hx := C.hx
  have hb := C.hb
  have hl : lv_has ls 3 [(0, .ref m0), (1, .int x1)] := hl
  have cut_33 : ∀ (n : Nat) (thn : Nat → Int32) (x1 : Int32) (x2 : Int32) (H : Heap) (locs : List Loc) (ls : Array Slot), Hx s G A (wMd cI cZ m0 m1 m2 m3 m4 m5 m6 m7 now thn past kept slt held mpad mpl mat ords ordn) H locs → lv_has ls 3 [(0, .ref m0), (1, .int x1), (2, .int x2)] → fX5_leastRoom_33 n now thn x1 x2 = some (rv, thn') → W p l e rm_X5_leastRoom s m args below meth c H locs 0 0 (MQ below (Qx G (some (.int rv)) (wMd cI cZ m0 m1 m2 m3 m4 m5 m6 m7 now thn' past kept slt held mpad mpl mat ords ordn) A) args s 0 0 A) (F0 m 33 ls []) := by
    intro n
    induction n with
    | zero =>
      intro thn x1 x2 H locs ls h hl hf
      exact (nn_some _ hf).elim
    | succ n ih =>
      intro thn x1 x2 H locs ls h hl hf
      have hf : fX5_leastRoom_33_b (fX5_leastRoom_33 n) now thn x1 x2 = some (rv, thn') := hf
      unfold fX5_leastRoom_33_b at hf
      refine lv_iload_n hx hb dX5_leastRoom_33 rfl (lv_at hl 2 rfl) ?_
      refine lv_bipush (v := 16) hx hb dX5_leastRoom_34 (by decide) ?_
      refine lv_icmp_gt (tgt := 74) hx hb dX5_leastRoom_36 (by decide) (fun hc => ?_) (fun hc => ?_)
      · replace hf := it_t hf hc
        refine lv_bipush (v := (-6)) hx hb dX5_leastRoom_74 (by decide) ?_
        cases hf
        exact r_iret C h hr hlocks dX5_leastRoom_76
      · replace hf := it_f hf hc
        refine lv_aload_n hx hb dX5_leastRoom_39 rfl (lv_at hl 0 rfl) ?_
        obtain ⟨thn_1, hq_2, hf⟩ := ob1_use hf
        refine r_callV C h (cw_X5_leastRoom_X5_tries_131 C.hts) (rest := []) (ci := 5) (N := 11) (Cn := RX5) (T := TX5) (c_X5_tries l G cI cC cZ X m0 m1 m2 m3 m4 m5 m6 m7 now thn past kept slt held mpad mpl mat ords ordn thn_1 hq_2) [0, 1, 2, 3, 4, 5, 6, 7] rfl rfl rfl rfl 0 rfl rfl hl.1 rfl (Nat.le_of_ble_eq_true rfl) ⟨Nat.le_of_ble_eq_true rfl, Nat.le_of_ble_eq_true rfl⟩ (wMd cI cZ m0 m1 m2 m3 m4 m5 m6 m7 now thn_1 past kept slt held mpad mpl mat ords ordn) rfl rfl dX5_leastRoom_40 (fun H locs h => ?_)
        refine lv_aload_n hx hb dX5_leastRoom_43 rfl (lv_at hl 0 rfl) ?_
        refine r_get C h 0 1 (ci := 5) (N := 11) (Cn := RX5) (T := TX5) rfl rfl (by decide) in_X5_leastRoom_X5 lk_X5_leastRoom_13 rfl dX5_leastRoom_44 ?_
        refine lv_iconst (v := 3) hx hb dX5_leastRoom_47 (by decide) ?_
        refine lv_iload_n hx hb dX5_leastRoom_48 rfl (lv_at hl 2 rfl) ?_
        refine r_ast C h 2 rfl rfl k_3_234 (fun z__ => (wMd cI cZ m0 m1 m2 m3 m4 m5 m6 m7 now z__ past kept slt held mpad mpl mat ords ordn)) (fun _ => rfl) dX5_leastRoom_49 (fun thn_3 ethn_3 H locs h => ?_)
        replace hf := nm_use hf ethn_3
        refine lv_aload_n hx hb dX5_leastRoom_50 rfl (lv_at hl 0 rfl) ?_
        refine r_get C h 0 1 (ci := 5) (N := 11) (Cn := RX5) (T := TX5) rfl rfl (by decide) in_X5_leastRoom_X5 lk_X5_leastRoom_13 rfl dX5_leastRoom_51 ?_
        refine lv_iload_n hx hb dX5_leastRoom_54 rfl (lv_at hl 1 rfl) ?_
        obtain ⟨thn_4, hq_5, hf⟩ := ob1_use hf
        refine r_callS C h (cw_X5_leastRoom_X5_passes_109 C.hts) (rest := []) (c_X5_passes l G cI cC cZ X m2 thn_3 x1 thn_4 hq_5) [2] rfl rfl rfl rfl hl.1 rfl (Nat.le_of_ble_eq_true rfl) ⟨Nat.le_of_ble_eq_true rfl, Nat.le_of_ble_eq_true rfl⟩ (wMd cI cZ m0 m1 m2 m3 m4 m5 m6 m7 now thn_4 past kept slt held mpad mpl mat ords ordn) rfl rfl dX5_leastRoom_55 (fun H locs h => ?_)
        refine lv_aload_n hx hb dX5_leastRoom_58 rfl (lv_at hl 0 rfl) ?_
        refine lv_iconst (v := 0) hx hb dX5_leastRoom_59 (by decide) ?_
        obtain ⟨r_6, hq_7, hf⟩ := ob1_use hf
        refine r_callV C h (cw_X5_leastRoom_X5_more_134 C.hts) (rest := []) (ci := 5) (N := 11) (Cn := RX5) (T := TX5) (c_X5_more l G cI cC cZ X m0 m1 m2 m3 m4 m5 m6 m7 now thn_4 past kept slt held mpad mpl mat ords ordn (0 : Int32) r_6 hq_7) [0, 1, 2, 3, 4, 5, 6, 7] rfl rfl rfl rfl 0 rfl rfl hl.1 rfl (Nat.le_of_ble_eq_true rfl) ⟨Nat.le_of_ble_eq_true rfl, Nat.le_of_ble_eq_true rfl⟩ (wMd cI cZ m0 m1 m2 m3 m4 m5 m6 m7 now thn_4 past kept slt held mpad mpl mat ords ordn) rfl rfl dX5_leastRoom_60 (fun H locs h => ?_)
        refine lv_if_ne (tgt := 68) hx hb dX5_leastRoom_63 (by decide) (fun hc => ?_) (fun hc => ?_)
        · replace hf := it_f hf hc
          obtain ⟨x2_8, ex2_8⟩ : ∃ y : Int32, y = x2 + 1 := ⟨_, rfl⟩
          replace hf := nm_use hf ex2_8
          refine lv_iinc (v := x2_8) (lv' := [(2, .int x2_8), (0, .ref m0), (1, .int x1)]) hx hb dX5_leastRoom_68 hl (k := 2) rfl (by rw [ex2_8]; rfl) (by decide) rfl (fun ls hl => ?_)
          refine lv_goto (tgt := 33) hx hb dX5_leastRoom_71 (by decide) ?_
          exact ih thn_4 x1 x2_8 _ _ _ h (lv_sub hl [1, 2, 0] rfl) hf
        · replace hf := it_t hf hc
          refine lv_iload_n hx hb dX5_leastRoom_66 rfl (lv_at hl 2 rfl) ?_
          cases hf
          exact r_iret C h hr hlocks dX5_leastRoom_67
  unfold fX5_leastRoom at hf
  refine lv_iload_n hx hb dX5_leastRoom_0 rfl (lv_at hl 1 rfl) ?_
  obtain ⟨r_1, hq_2, hf⟩ := ob1_use hf
  refine r_callS C h (cw_X5_leastRoom_X5_areTicks_127 C.hts) (rest := []) (c_X5_areTicks l G cI cC cZ X x1 r_1 hq_2) [] rfl rfl rfl rfl hl.1 rfl (Nat.le_of_ble_eq_true rfl) ⟨Nat.le_of_ble_eq_true rfl, Nat.le_of_ble_eq_true rfl⟩ (wMd cI cZ m0 m1 m2 m3 m4 m5 m6 m7 now thn past kept slt held mpad mpl mat ords ordn) rfl rfl dX5_leastRoom_1 (fun H locs h => ?_)
  refine lv_if_ne (tgt := 10) hx hb dX5_leastRoom_4 (by decide) (fun hc => ?_) (fun hc => ?_)
  · replace hf := it_f hf hc
    refine lv_aload_n hx hb dX5_leastRoom_10 rfl (lv_at hl 0 rfl) ?_
    refine r_get C h 0 0 (ci := 5) (N := 11) (Cn := RX5) (T := TX5) rfl rfl (by decide) in_X5_leastRoom_X5 lk_X5_leastRoom_7 rfl dX5_leastRoom_11 ?_
    refine lv_bipush (v := 10) hx hb dX5_leastRoom_14 (by decide) ?_
    refine r_ald C h 1 rfl rfl k_10_234 dX5_leastRoom_16 ?_
    refine lv_iconst (v := 1) hx hb dX5_leastRoom_17 (by decide) ?_
    refine lv_icmp_le (tgt := 31) hx hb dX5_leastRoom_18 (by decide) (fun hc => ?_) (fun hc => ?_)
    · replace hf := it_t hf hc
      refine lv_iconst (v := 1) hx hb dX5_leastRoom_31 (by decide) ?_
      refine lv_istore_n (lv' := [(2, .int 1), (0, .ref m0), (1, .int x1)]) hx hb dX5_leastRoom_32 rfl hl (by decide) rfl (fun ls hl => ?_)
      exact cut_33 KF thn x1 1 _ _ _ h (lv_sub hl [1, 2, 0] rfl) hf
    · replace hf := it_f hf hc
      refine lv_aload_n hx hb dX5_leastRoom_21 rfl (lv_at hl 0 rfl) ?_
      refine r_get C h 0 0 (ci := 5) (N := 11) (Cn := RX5) (T := TX5) rfl rfl (by decide) in_X5_leastRoom_X5 lk_X5_leastRoom_7 rfl dX5_leastRoom_22 ?_
      refine lv_bipush (v := 10) hx hb dX5_leastRoom_25 (by decide) ?_
      refine r_ald C h 1 rfl rfl k_10_234 dX5_leastRoom_27 ?_
      refine lv_goto (tgt := 32) hx hb dX5_leastRoom_28 (by decide) ?_
      refine lv_topi (fun x2_3 ex2_3 => ?_)
      replace hf := nm_use hf ex2_3
      refine lv_istore_n (lv' := [(2, .int x2_3), (0, .ref m0), (1, .int x1)]) hx hb dX5_leastRoom_32 rfl hl (by decide) rfl (fun ls hl => ?_)
      exact cut_33 KF thn x1 x2_3 _ _ _ h (lv_sub hl [1, 2, 0] rfl) hf
  · replace hf := it_t hf hc
    refine lv_bipush (v := (-2)) hx hb dX5_leastRoom_7 (by decide) ?_
    cases hf
    exact r_iret C h hr hlocks dX5_leastRoom_9
def rm_X5_bestOut : Room := { frames := 5, cells := 0, slots := 0, locals := 110 }
set_option maxRecDepth 20000 in
theorem lk_X5_bestOut_13 : Cond.fieldLink RX5 13 "LineDoublerModel" "then" "[I" ∈ wsX5_bestOut := List.mem_of_getElem? (i := 1) (by decide +kernel)
set_option maxRecDepth 20000 in
theorem in_X5_bestOut_X5 : ∀ x ∈ wsX50, x ∈ wsX5_bestOut := mem_r _ [57, 58, 59, 60, 61, 62, 63, 64, 65, 66, 67] (by decide +kernel)
set_option maxRecDepth 20000 in
theorem cw_X5_bestOut_X5_areTicks_127 {s : State} {args : Array Value} (hts : ∀ w ∈ wsX5_bestOut, w.before args s = true) : CallB rm_X5_bestOut s args RX5 127 yX5_areTicks cX5_areTicks 1 (some .boolean) wsX5_areTicks rm_X5_areTicks 0 0 1 ∧ (Cond.static yX5_areTicks).before args s = true :=
  va_cwS 1 hts gX5_bestOut_X5_areTicks rfl rfl rfl (by decide +kernel) ⟨Nat.le_of_ble_eq_true rfl, Nat.le_of_ble_eq_true rfl⟩
set_option maxRecDepth 20000 in
theorem cw_X5_bestOut_X5_in_40 {s : State} {args : Array Value} (hts : ∀ w ∈ wsX5_bestOut, w.before args s = true) : CallB rm_X5_bestOut s args RX5 40 yX5_in cX5_in 3 (some .boolean) wsX5_in rm_X5_in 0 0 3 ∧ (Cond.static yX5_in).before args s = true :=
  va_cwS 3 hts gX5_bestOut_X5_in rfl rfl rfl (by decide +kernel) ⟨Nat.le_of_ble_eq_true rfl, Nat.le_of_ble_eq_true rfl⟩
set_option maxRecDepth 20000 in
theorem cw_X5_bestOut_X5_tries_131 {s : State} {args : Array Value} (hts : ∀ w ∈ wsX5_bestOut, w.before args s = true) : CallW rm_X5_bestOut s args RX5 RX5 131 yX5_tries cX5_tries 1 none wsX5_tries rm_X5_tries 0 0 0 :=
  cwV 0 hts gX5_bestOut_X5_tries rfl rfl rfl (by decide +kernel) ⟨Nat.le_of_ble_eq_true rfl, Nat.le_of_ble_eq_true rfl⟩
set_option maxRecDepth 20000 in
theorem cw_X5_bestOut_X5_passes_109 {s : State} {args : Array Value} (hts : ∀ w ∈ wsX5_bestOut, w.before args s = true) : CallB rm_X5_bestOut s args RX5 109 yX5_passes cX5_passes 3 none wsX5_passes rm_X5_passes 0 0 2 ∧ (Cond.static yX5_passes).before args s = true :=
  va_cwS 2 hts gX5_bestOut_X5_passes rfl rfl rfl (by decide +kernel) ⟨Nat.le_of_ble_eq_true rfl, Nat.le_of_ble_eq_true rfl⟩
set_option maxRecDepth 20000 in
theorem cw_X5_bestOut_X5_more_134 {s : State} {args : Array Value} (hts : ∀ w ∈ wsX5_bestOut, w.before args s = true) : CallW rm_X5_bestOut s args RX5 RX5 134 yX5_more cX5_more 3 (some .int) wsX5_more rm_X5_more 0 0 1 :=
  cwV 1 hts gX5_bestOut_X5_more rfl rfl rfl (by decide +kernel) ⟨Nat.le_of_ble_eq_true rfl, Nat.le_of_ble_eq_true rfl⟩
set_option maxHeartbeats 4000000 in
set_option maxRecDepth 100000 in
theorem c_X5_bestOut (l : Launch) (G : va_G) (cI cC cZ : ClassId) (X : List (ClassId × FieldType)) (m0 m1 m2 m3 m4 m5 m6 m7 : Nat) (now : Nat → Int32) (thn : Nat → Int32) (past : Nat → Int32) (kept : Int32) (slt : Nat → Int32) (held : Nat → Int32) (mpad : Nat → Int32) (mpl : Int32) (mat : Int32) (ords : Nat → Int32) (ordn : Int32) (x1 : Int32) (x2 : Int32) (rv : Int32) (thn' : Nat → Int32) (hf : fX5_bestOut now thn x1 x2 = some (rv, thn')) : CT l yX5_bestOut wsX5_bestOut rm_X5_bestOut G (TY cI cC cZ X) [.ref m0, .int x1, .int x2] (wMd cI cZ m0 m1 m2 m3 m4 m5 m6 m7 now thn past kept slt held mpad mpl mat ords ordn) (some (.int rv)) (wMd cI cZ m0 m1 m2 m3 m4 m5 m6 m7 now thn' past kept slt held mpad mpl mat ords ordn) := by
  refine CT.of (cc := cX5_bestOut) (maxL := 7) (ret := (some .int)) RX5 rfl (by decide) rfl (Nat.le_of_ble_eq_true rfl) ?_
  intro p e s m args below meth c A ls C hr hlocks hnm h hl
  have hx := C.hx
  have hb := C.hb
  have hl : lv_has ls 7 [(0, .ref m0), (1, .int x1), (2, .int x2)] := hl
  have cut_27 : ∀ (n : Nat) (thn : Nat → Int32) (x1 : Int32) (x2 : Int32) (x3 : Int32) (x4 : Int32) (x5 : Int32) (H : Heap) (locs : List Loc) (ls : Array Slot), Hx s G A (wMd cI cZ m0 m1 m2 m3 m4 m5 m6 m7 now thn past kept slt held mpad mpl mat ords ordn) H locs → lv_has ls 7 [(0, .ref m0), (1, .int x1), (2, .int x2), (3, .int x3), (4, .int x4), (5, .int x5)] → fX5_bestOut_27 n now thn x1 x2 x3 x4 x5 = some (rv, thn') → W p l e rm_X5_bestOut s m args below meth c H locs 0 0 (MQ below (Qx G (some (.int rv)) (wMd cI cZ m0 m1 m2 m3 m4 m5 m6 m7 now thn' past kept slt held mpad mpl mat ords ordn) A) args s 0 0 A) (F0 m 27 ls []) := by
    intro n
    induction n with
    | zero =>
      intro thn x1 x2 x3 x4 x5 H locs ls h hl hf
      exact (nn_some _ hf).elim
    | succ n ih =>
      intro thn x1 x2 x3 x4 x5 H locs ls h hl hf
      have hf : fX5_bestOut_27_b (fX5_bestOut_27 n) now thn x1 x2 x3 x4 x5 = some (rv, thn') := hf
      unfold fX5_bestOut_27_b at hf
      refine lv_iload hx hb dX5_bestOut_27 (lv_at hl 5 rfl) ?_
      refine lv_bipush (v := 99) hx hb dX5_bestOut_29 (by decide) ?_
      refine lv_icmp_gt (tgt := 91) hx hb dX5_bestOut_31 (by decide) (fun hc => ?_) (fun hc => ?_)
      · replace hf := it_t hf hc
        refine lv_iload_n hx hb dX5_bestOut_91 rfl (lv_at hl 2 rfl) ?_
        refine lv_if_ne (tgt := 99) hx hb dX5_bestOut_92 (by decide) (fun hc => ?_) (fun hc => ?_)
        · replace hf := it_f hf hc
          refine lv_iload hx hb dX5_bestOut_99 (lv_at hl 4 rfl) ?_
          cases hf
          exact r_iret C h hr hlocks dX5_bestOut_101
        · replace hf := it_t hf hc
          refine lv_iload_n hx hb dX5_bestOut_95 rfl (lv_at hl 3 rfl) ?_
          refine lv_goto (tgt := 101) hx hb dX5_bestOut_96 (by decide) ?_
          cases hf
          exact r_iret C h hr hlocks dX5_bestOut_101
      · replace hf := it_f hf hc
        refine lv_aload_n hx hb dX5_bestOut_34 rfl (lv_at hl 0 rfl) ?_
        obtain ⟨thn_1, hq_2, hf⟩ := ob1_use hf
        refine r_callV C h (cw_X5_bestOut_X5_tries_131 C.hts) (rest := []) (ci := 5) (N := 11) (Cn := RX5) (T := TX5) (c_X5_tries l G cI cC cZ X m0 m1 m2 m3 m4 m5 m6 m7 now thn past kept slt held mpad mpl mat ords ordn thn_1 hq_2) [0, 1, 2, 3, 4, 5, 6, 7] rfl rfl rfl rfl 0 rfl rfl hl.1 rfl (Nat.le_of_ble_eq_true rfl) ⟨Nat.le_of_ble_eq_true rfl, Nat.le_of_ble_eq_true rfl⟩ (wMd cI cZ m0 m1 m2 m3 m4 m5 m6 m7 now thn_1 past kept slt held mpad mpl mat ords ordn) rfl rfl dX5_bestOut_35 (fun H locs h => ?_)
        refine lv_aload_n hx hb dX5_bestOut_38 rfl (lv_at hl 0 rfl) ?_
        refine r_get C h 0 1 (ci := 5) (N := 11) (Cn := RX5) (T := TX5) rfl rfl (by decide) in_X5_bestOut_X5 lk_X5_bestOut_13 rfl dX5_bestOut_39 ?_
        refine lv_iconst (v := 2) hx hb dX5_bestOut_42 (by decide) ?_
        refine lv_iload hx hb dX5_bestOut_43 (lv_at hl 5 rfl) ?_
        refine r_ast C h 2 rfl rfl k_2_234 (fun z__ => (wMd cI cZ m0 m1 m2 m3 m4 m5 m6 m7 now z__ past kept slt held mpad mpl mat ords ordn)) (fun _ => rfl) dX5_bestOut_45 (fun thn_3 ethn_3 H locs h => ?_)
        replace hf := nm_use hf ethn_3
        refine lv_aload_n hx hb dX5_bestOut_46 rfl (lv_at hl 0 rfl) ?_
        refine r_get C h 0 1 (ci := 5) (N := 11) (Cn := RX5) (T := TX5) rfl rfl (by decide) in_X5_bestOut_X5 lk_X5_bestOut_13 rfl dX5_bestOut_47 ?_
        refine lv_iload_n hx hb dX5_bestOut_50 rfl (lv_at hl 1 rfl) ?_
        obtain ⟨thn_4, hq_5, hf⟩ := ob1_use hf
        refine r_callS C h (cw_X5_bestOut_X5_passes_109 C.hts) (rest := []) (c_X5_passes l G cI cC cZ X m2 thn_3 x1 thn_4 hq_5) [2] rfl rfl rfl rfl hl.1 rfl (Nat.le_of_ble_eq_true rfl) ⟨Nat.le_of_ble_eq_true rfl, Nat.le_of_ble_eq_true rfl⟩ (wMd cI cZ m0 m1 m2 m3 m4 m5 m6 m7 now thn_4 past kept slt held mpad mpl mat ords ordn) rfl rfl dX5_bestOut_51 (fun H locs h => ?_)
        refine lv_aload_n hx hb dX5_bestOut_54 rfl (lv_at hl 0 rfl) ?_
        refine lv_iconst (v := 0) hx hb dX5_bestOut_55 (by decide) ?_
        obtain ⟨r_6, hq_7, hf⟩ := ob1_use hf
        refine r_callV C h (cw_X5_bestOut_X5_more_134 C.hts) (rest := []) (ci := 5) (N := 11) (Cn := RX5) (T := TX5) (c_X5_more l G cI cC cZ X m0 m1 m2 m3 m4 m5 m6 m7 now thn_4 past kept slt held mpad mpl mat ords ordn (0 : Int32) r_6 hq_7) [0, 1, 2, 3, 4, 5, 6, 7] rfl rfl rfl rfl 0 rfl rfl hl.1 rfl (Nat.le_of_ble_eq_true rfl) ⟨Nat.le_of_ble_eq_true rfl, Nat.le_of_ble_eq_true rfl⟩ (wMd cI cZ m0 m1 m2 m3 m4 m5 m6 m7 now thn_4 past kept slt held mpad mpl mat ords ordn) rfl rfl dX5_bestOut_56 (fun H locs h => ?_)
        refine lv_aload_n hx hb dX5_bestOut_59 rfl (lv_at hl 0 rfl) ?_
        refine lv_iconst (v := 1) hx hb dX5_bestOut_60 (by decide) ?_
        obtain ⟨r_8, hq_9, hf⟩ := ob1_use hf
        refine r_callV C h (cw_X5_bestOut_X5_more_134 C.hts) (rest := [.int r_6]) (ci := 5) (N := 11) (Cn := RX5) (T := TX5) (c_X5_more l G cI cC cZ X m0 m1 m2 m3 m4 m5 m6 m7 now thn_4 past kept slt held mpad mpl mat ords ordn (1 : Int32) r_8 hq_9) [0, 1, 2, 3, 4, 5, 6, 7] rfl rfl rfl rfl 0 rfl rfl hl.1 rfl (Nat.le_of_ble_eq_true rfl) ⟨Nat.le_of_ble_eq_true rfl, Nat.le_of_ble_eq_true rfl⟩ (wMd cI cZ m0 m1 m2 m3 m4 m5 m6 m7 now thn_4 past kept slt held mpad mpl mat ords ordn) rfl rfl dX5_bestOut_61 (fun H locs h => ?_)
        refine lv_iadd hx hb dX5_bestOut_64 ?_
        refine lv_topi (fun x6_10 ex6_10 => ?_)
        replace hf := nm_use hf ex6_10
        refine lv_istore (lv' := [(6, .int x6_10), (0, .ref m0), (1, .int x1), (2, .int x2), (3, .int x3), (4, .int x4), (5, .int x5)]) hx hb dX5_bestOut_65 hl (by decide) rfl (fun ls hl => ?_)
        refine lv_iload_n hx hb dX5_bestOut_67 rfl (lv_at hl 4 rfl) ?_
        refine lv_if_eq (tgt := 78) hx hb dX5_bestOut_68 (by decide) (fun hc => ?_) (fun hc => ?_)
        · replace hf := it_t hf hc
          refine lv_iload hx hb dX5_bestOut_78 (lv_at hl 6 rfl) ?_
          refine lv_istore_n (lv' := [(3, .int x5), (6, .int x6_10), (0, .ref m0), (1, .int x1), (2, .int x2), (4, .int x4), (5, .int x5)]) hx hb dX5_bestOut_80 rfl hl (by decide) rfl (fun ls hl => ?_)
          refine lv_iload hx hb dX5_bestOut_81 (lv_at hl 1 rfl) ?_
          refine lv_istore (lv' := [(4, .int x6_10), (3, .int x5), (6, .int x6_10), (0, .ref m0), (1, .int x1), (2, .int x2), (5, .int x5)]) hx hb dX5_bestOut_83 hl (by decide) rfl (fun ls hl => ?_)
          obtain ⟨x5_11, ex5_11⟩ : ∃ y : Int32, y = x5 + 1 := ⟨_, rfl⟩
          replace hf := nm_use hf ex5_11
          refine lv_iinc (v := x5_11) (lv' := [(5, .int x5_11), (4, .int x6_10), (3, .int x5), (6, .int x6_10), (0, .ref m0), (1, .int x1), (2, .int x2)]) hx hb dX5_bestOut_85 hl (k := 6) rfl (by rw [ex5_11]; rfl) (by decide) rfl (fun ls hl => ?_)
          refine lv_goto (tgt := 27) hx hb dX5_bestOut_88 (by decide) ?_
          exact ih thn_4 x1 x2 x5 x6_10 x5_11 _ _ _ h (lv_sub hl [4, 5, 6, 2, 1, 0] rfl) hf
        · replace hf := it_f hf hc
          refine lv_iload hx hb dX5_bestOut_71 (lv_at hl 0 rfl) ?_
          refine lv_iload hx hb dX5_bestOut_73 (lv_at hl 5 rfl) ?_
          refine lv_icmp_ge (tgt := 85) hx hb dX5_bestOut_75 (by decide) (fun hc => ?_) (fun hc => ?_)
          · replace hf := it_t hf hc
            obtain ⟨x5_12, ex5_12⟩ : ∃ y : Int32, y = x5 + 1 := ⟨_, rfl⟩
            replace hf := nm_use hf ex5_12
            refine lv_iinc (v := x5_12) (lv' := [(5, .int x5_12), (6, .int x6_10), (0, .ref m0), (1, .int x1), (2, .int x2), (3, .int x3), (4, .int x4)]) hx hb dX5_bestOut_85 hl (k := 6) rfl (by rw [ex5_12]; rfl) (by decide) rfl (fun ls hl => ?_)
            refine lv_goto (tgt := 27) hx hb dX5_bestOut_88 (by decide) ?_
            exact ih thn_4 x1 x2 x3 x4 x5_12 _ _ _ h (lv_sub hl [2, 3, 4, 5, 6, 0] rfl) hf
          · replace hf := it_f hf hc
            refine lv_iload hx hb dX5_bestOut_78 (lv_at hl 6 rfl) ?_
            refine lv_istore_n (lv' := [(3, .int x5), (6, .int x6_10), (0, .ref m0), (1, .int x1), (2, .int x2), (4, .int x4), (5, .int x5)]) hx hb dX5_bestOut_80 rfl hl (by decide) rfl (fun ls hl => ?_)
            refine lv_iload hx hb dX5_bestOut_81 (lv_at hl 1 rfl) ?_
            refine lv_istore (lv' := [(4, .int x6_10), (3, .int x5), (6, .int x6_10), (0, .ref m0), (1, .int x1), (2, .int x2), (5, .int x5)]) hx hb dX5_bestOut_83 hl (by decide) rfl (fun ls hl => ?_)
            obtain ⟨x5_13, ex5_13⟩ : ∃ y : Int32, y = x5 + 1 := ⟨_, rfl⟩
            replace hf := nm_use hf ex5_13
            refine lv_iinc (v := x5_13) (lv' := [(5, .int x5_13), (4, .int x6_10), (3, .int x5), (6, .int x6_10), (0, .ref m0), (1, .int x1), (2, .int x2)]) hx hb dX5_bestOut_85 hl (k := 6) rfl (by rw [ex5_13]; rfl) (by decide) rfl (fun ls hl => ?_)
            refine lv_goto (tgt := 27) hx hb dX5_bestOut_88 (by decide) ?_
            exact ih thn_4 x1 x2 x5 x6_10 x5_13 _ _ _ h (lv_sub hl [4, 5, 6, 2, 1, 0] rfl) hf
  unfold fX5_bestOut at hf
  refine lv_iload_n hx hb dX5_bestOut_0 rfl (lv_at hl 1 rfl) ?_
  obtain ⟨r_1, hq_2, hf⟩ := ob1_use hf
  refine r_callS C h (cw_X5_bestOut_X5_areTicks_127 C.hts) (rest := []) (c_X5_areTicks l G cI cC cZ X x1 r_1 hq_2) [] rfl rfl rfl rfl hl.1 rfl (Nat.le_of_ble_eq_true rfl) ⟨Nat.le_of_ble_eq_true rfl, Nat.le_of_ble_eq_true rfl⟩ (wMd cI cZ m0 m1 m2 m3 m4 m5 m6 m7 now thn past kept slt held mpad mpl mat ords ordn) rfl rfl dX5_bestOut_1 (fun H locs h => ?_)
  refine lv_if_eq (tgt := 16) hx hb dX5_bestOut_4 (by decide) (fun hc => ?_) (fun hc => ?_)
  · replace hf := it_t hf hc
    refine lv_bipush (v := (-2)) hx hb dX5_bestOut_16 (by decide) ?_
    cases hf
    exact r_iret C h hr hlocks dX5_bestOut_18
  · replace hf := it_f hf hc
    refine lv_iload_n hx hb dX5_bestOut_7 rfl (lv_at hl 2 rfl) ?_
    refine lv_iconst (v := 0) hx hb dX5_bestOut_8 (by decide) ?_
    refine lv_iconst (v := 1) hx hb dX5_bestOut_9 (by decide) ?_
    obtain ⟨r_3, hq_4, hf⟩ := ob1_use hf
    refine r_callS C h (cw_X5_bestOut_X5_in_40 C.hts) (rest := []) (c_X5_in l G cI cC cZ X x2 (0 : Int32) (1 : Int32) r_3 hq_4) [] rfl rfl rfl rfl hl.1 rfl (Nat.le_of_ble_eq_true rfl) ⟨Nat.le_of_ble_eq_true rfl, Nat.le_of_ble_eq_true rfl⟩ (wMd cI cZ m0 m1 m2 m3 m4 m5 m6 m7 now thn past kept slt held mpad mpl mat ords ordn) rfl rfl dX5_bestOut_10 (fun H locs h => ?_)
    refine lv_if_ne (tgt := 19) hx hb dX5_bestOut_13 (by decide) (fun hc => ?_) (fun hc => ?_)
    · replace hf := it_f hf hc
      refine lv_iconst (v := 0) hx hb dX5_bestOut_19 (by decide) ?_
      refine lv_istore_n (lv' := [(3, .int 0), (0, .ref m0), (1, .int x1), (2, .int x2)]) hx hb dX5_bestOut_20 rfl hl (by decide) rfl (fun ls hl => ?_)
      refine lv_iconst (v := 0) hx hb dX5_bestOut_21 (by decide) ?_
      refine lv_istore (lv' := [(4, .int 0), (3, .int 0), (0, .ref m0), (1, .int x1), (2, .int x2)]) hx hb dX5_bestOut_22 hl (by decide) rfl (fun ls hl => ?_)
      refine lv_iconst (v := 1) hx hb dX5_bestOut_24 (by decide) ?_
      refine lv_istore (lv' := [(5, .int 1), (4, .int 0), (3, .int 0), (0, .ref m0), (1, .int x1), (2, .int x2)]) hx hb dX5_bestOut_25 hl (by decide) rfl (fun ls hl => ?_)
      exact cut_27 KF thn x1 x2 0 0 1 _ _ _ h (lv_sub hl [3, 4, 5, 2, 1, 0] rfl) hf
    · replace hf := it_t hf hc
      refine lv_bipush (v := (-2)) hx hb dX5_bestOut_16 (by decide) ?_
      cases hf
      exact r_iret C h hr hlocks dX5_bestOut_18
def rm_X5_put : Room := { frames := 2, cells := 0, slots := 0, locals := 45 }
set_option maxRecDepth 20000 in
theorem lk_X5_put_112 : Cond.fieldLink RX5 112 "LineDoublerModel" "padded" "I" ∈ wsX5_put := List.mem_of_getElem? (i := 1) (by decide +kernel)
set_option maxRecDepth 20000 in
theorem lk_X5_put_26 : Cond.fieldLink RX5 26 "LineDoublerModel" "pad" "[I" ∈ wsX5_put := List.mem_of_getElem? (i := 2) (by decide +kernel)
set_option maxRecDepth 20000 in
theorem in_X5_put_X5 : ∀ x ∈ wsX50, x ∈ wsX5_put := mem_r _ [14, 15, 16, 17, 18, 19, 20, 21, 22, 23, 24] (by decide +kernel)
set_option maxRecDepth 20000 in
theorem cw_X5_put_X5_toldBy_143 {s : State} {args : Array Value} (hts : ∀ w ∈ wsX5_put, w.before args s = true) : CallB rm_X5_put s args RX5 143 yX5_toldBy cX5_toldBy 4 (some .int) wsX5_toldBy rm_X5_toldBy 0 0 1 ∧ (Cond.static yX5_toldBy).before args s = true :=
  va_cwS 1 hts gX5_put_X5_toldBy rfl rfl rfl (by decide +kernel) ⟨Nat.le_of_ble_eq_true rfl, Nat.le_of_ble_eq_true rfl⟩
set_option maxRecDepth 20000 in
theorem cw_X5_put_X5_byteOf_139 {s : State} {args : Array Value} (hts : ∀ w ∈ wsX5_put, w.before args s = true) : CallB rm_X5_put s args RX5 139 yX5_byteOf cX5_byteOf 3 (some .int) wsX5_byteOf rm_X5_byteOf 0 0 2 ∧ (Cond.static yX5_byteOf).before args s = true :=
  va_cwS 2 hts gX5_put_X5_byteOf rfl rfl rfl (by decide +kernel) ⟨Nat.le_of_ble_eq_true rfl, Nat.le_of_ble_eq_true rfl⟩
set_option maxHeartbeats 4000000 in
set_option maxRecDepth 100000 in
theorem c_X5_put (l : Launch) (G : va_G) (cI cC cZ : ClassId) (X : List (ClassId × FieldType)) (m0 m1 m2 m3 m4 m5 m6 m7 : Nat) (now : Nat → Int32) (thn : Nat → Int32) (past : Nat → Int32) (kept : Int32) (slt : Nat → Int32) (held : Nat → Int32) (mpad : Nat → Int32) (mpl : Int32) (mat : Int32) (ords : Nat → Int32) (ordn : Int32) (x1 : Int64) (rv : Int32) (mpad' : Nat → Int32) (mpl' : Int32) (hf : fX5_put mpad mpl x1 = some (rv, mpad', mpl')) : CT l yX5_put wsX5_put rm_X5_put G (TY cI cC cZ X) [.ref m0, .long x1] (wMd cI cZ m0 m1 m2 m3 m4 m5 m6 m7 now thn past kept slt held mpad mpl mat ords ordn) (some (.int rv)) (wMd cI cZ m0 m1 m2 m3 m4 m5 m6 m7 now thn past kept slt held mpad' mpl' mat ords ordn) := by
  refine CT.of (cc := cX5_put) (maxL := 5) (ret := (some .int)) RX5 rfl (by decide) rfl (Nat.le_of_ble_eq_true rfl) ?_
  intro p e s m args below meth c A ls C hr hlocks hnm h hl
  have hx := C.hx
  have hb := C.hb
  have hl : lv_has ls 5 [(0, .ref m0), (1, .long x1)] := hl
  have cut_30 : ∀ (n : Nat) (mpad : Nat → Int32) (mpl : Int32) (x1 : Int64) (x4 : Int32) (H : Heap) (locs : List Loc) (ls : Array Slot), Hx s G A (wMd cI cZ m0 m1 m2 m3 m4 m5 m6 m7 now thn past kept slt held mpad mpl mat ords ordn) H locs → lv_has ls 5 [(0, .ref m0), (1, .long x1), (4, .int x4)] → fX5_put_30 n mpad mpl x1 x4 = some (rv, mpad', mpl') → W p l e rm_X5_put s m args below meth c H locs 0 0 (MQ below (Qx G (some (.int rv)) (wMd cI cZ m0 m1 m2 m3 m4 m5 m6 m7 now thn past kept slt held mpad' mpl' mat ords ordn) A) args s 0 0 A) (F0 m 30 ls []) := by
    intro n
    induction n with
    | zero =>
      intro mpad mpl x1 x4 H locs ls h hl hf
      exact (nn_some _ hf).elim
    | succ n ih =>
      intro mpad mpl x1 x4 H locs ls h hl hf
      have hf : fX5_put_30_b (fX5_put_30 n) mpad mpl x1 x4 = some (rv, mpad', mpl') := hf
      unfold fX5_put_30_b at hf
      refine lv_iload hx hb dX5_put_30 (lv_at hl 2 rfl) ?_
      refine lv_if_lt (tgt := 66) hx hb dX5_put_32 (by decide) (fun hc => ?_) (fun hc => ?_)
      · replace hf := it_t hf hc
        refine lv_aload_n hx hb dX5_put_66 rfl (lv_at hl 0 rfl) ?_
        refine r_get C h 0 7 (ci := 5) (N := 11) (Cn := RX5) (T := TX5) rfl rfl (by decide) in_X5_put_X5 lk_X5_put_112 rfl dX5_put_67 ?_
        cases hf
        exact r_iret C h hr hlocks dX5_put_70
      · replace hf := it_f hf hc
        refine lv_aload_n hx hb dX5_put_35 rfl (lv_at hl 0 rfl) ?_
        refine r_get C h 0 6 (ci := 5) (N := 11) (Cn := RX5) (T := TX5) rfl rfl (by decide) in_X5_put_X5 lk_X5_put_26 rfl dX5_put_36 ?_
        refine lv_aload_n hx hb dX5_put_39 rfl (lv_at hl 0 rfl) ?_
        refine r_get C h 0 7 (ci := 5) (N := 11) (Cn := RX5) (T := TX5) rfl rfl (by decide) in_X5_put_X5 lk_X5_put_112 rfl dX5_put_40 ?_
        refine lv_lload_n hx hb dX5_put_43 rfl (lv_at hl 1 rfl) ?_
        refine lv_iload hx hb dX5_put_44 (lv_at hl 2 rfl) ?_
        obtain ⟨r_1, hq_2, hf⟩ := ob1_use hf
        refine r_callS C h (cw_X5_put_X5_byteOf_139 C.hts) (rest := [.int mpl, .ref m6]) (c_X5_byteOf l G cI cC cZ X x1 x4 r_1 hq_2) [] rfl rfl rfl rfl hl.1 rfl (Nat.le_of_ble_eq_true rfl) ⟨Nat.le_of_ble_eq_true rfl, Nat.le_of_ble_eq_true rfl⟩ (wMd cI cZ m0 m1 m2 m3 m4 m5 m6 m7 now thn past kept slt held mpad mpl mat ords ordn) rfl rfl dX5_put_46 (fun H locs h => ?_)
        obtain ⟨j_3, hj_3, hf⟩ := chk_use hf
        refine r_ast C h 6 rfl rfl hj_3 (fun z__ => (wMd cI cZ m0 m1 m2 m3 m4 m5 m6 m7 now thn past kept slt held z__ mpl mat ords ordn)) (fun _ => rfl) dX5_put_49 (fun mpad_4 empad_4 H locs h => ?_)
        replace hf := nm_use hf empad_4
        refine lv_aload_n hx hb dX5_put_50 rfl (lv_at hl 0 rfl) ?_
        refine lv_dup hx hb dX5_put_51 rfl ?_
        refine r_get C h 0 7 (ci := 5) (N := 11) (Cn := RX5) (T := TX5) rfl rfl (by decide) in_X5_put_X5 lk_X5_put_112 rfl dX5_put_52 ?_
        refine lv_iconst (v := 1) hx hb dX5_put_55 (by decide) ?_
        refine lv_iadd hx hb dX5_put_56 ?_
        refine lv_topi (fun mpl_5 empl_5 => ?_)
        replace hf := nm_use hf empl_5
        refine r_put C h 0 7 (ci := 5) (N := 11) (Cn := RX5) (T := TX5) (ty0 := tyX5) rfl rfl (by decide) in_X5_put_X5 tyX5_ok nmX5 lk_X5_put_112 rfl rfl rfl (Nat.le_of_ble_eq_true rfl) (wMd cI cZ m0 m1 m2 m3 m4 m5 m6 m7 now thn past kept slt held mpad_4 mpl_5 mat ords ordn) rfl dX5_put_57 (fun H locs h => ?_)
        obtain ⟨x4_6, ex4_6⟩ : ∃ y : Int32, y = x4 + (-1) := ⟨_, rfl⟩
        replace hf := nm_use hf ex4_6
        refine lv_iinc (v := x4_6) (lv' := [(4, .int x4_6), (0, .ref m0), (1, .long x1)]) hx hb dX5_put_60 hl (k := 2) rfl (by rw [ex4_6]; rfl) (by decide) rfl (fun ls hl => ?_)
        refine lv_goto (tgt := 30) hx hb dX5_put_63 (by decide) ?_
        exact ih mpad_4 mpl_5 x1 x4_6 _ _ _ h (lv_sub hl [1, 2, 0] rfl) hf
  unfold fX5_put at hf
  refine lv_lload_n hx hb dX5_put_0 rfl (lv_at hl 1 rfl) ?_
  obtain ⟨r_1, hq_2, hf⟩ := ob1_use hf
  refine r_callS C h (cw_X5_put_X5_toldBy_143 C.hts) (rest := []) (c_X5_toldBy l G cI cC cZ X x1 r_1 hq_2) [] rfl rfl rfl rfl hl.1 rfl (Nat.le_of_ble_eq_true rfl) ⟨Nat.le_of_ble_eq_true rfl, Nat.le_of_ble_eq_true rfl⟩ (wMd cI cZ m0 m1 m2 m3 m4 m5 m6 m7 now thn past kept slt held mpad mpl mat ords ordn) rfl rfl dX5_put_1 (fun H locs h => ?_)
  refine lv_istore_n (lv' := [(3, .int r_1), (0, .ref m0), (1, .long x1)]) hx hb dX5_put_4 rfl hl (by decide) rfl (fun ls hl => ?_)
  refine lv_iload_n hx hb dX5_put_5 rfl (lv_at hl 0 rfl) ?_
  refine lv_if_ge (tgt := 11) hx hb dX5_put_6 (by decide) (fun hc => ?_) (fun hc => ?_)
  · replace hf := it_t hf hc
    refine lv_aload_n hx hb dX5_put_11 rfl (lv_at hl 1 rfl) ?_
    refine r_get C h 0 7 (ci := 5) (N := 11) (Cn := RX5) (T := TX5) rfl rfl (by decide) in_X5_put_X5 lk_X5_put_112 rfl dX5_put_12 ?_
    refine lv_iload_n hx hb dX5_put_15 rfl (lv_at hl 0 rfl) ?_
    refine lv_iadd hx hb dX5_put_16 ?_
    refine lv_bipush (v := 80) hx hb dX5_put_17 (by decide) ?_
    refine lv_icmp_le (tgt := 25) hx hb dX5_put_19 (by decide) (fun hc => ?_) (fun hc => ?_)
    · replace hf := it_t hf hc
      refine lv_iload_n hx hb dX5_put_25 rfl (lv_at hl 0 rfl) ?_
      refine lv_iconst (v := 1) hx hb dX5_put_26 (by decide) ?_
      refine lv_isub hx hb dX5_put_27 ?_
      refine lv_topi (fun x4_3 ex4_3 => ?_)
      replace hf := nm_use hf ex4_3
      refine lv_istore (lv' := [(4, .int x4_3), (3, .int r_1), (0, .ref m0), (1, .long x1)]) hx hb dX5_put_28 hl (by decide) rfl (fun ls hl => ?_)
      exact cut_30 KF mpad mpl x1 x4_3 _ _ _ h (lv_sub hl [2, 3, 0] rfl) hf
    · replace hf := it_f hf hc
      refine lv_bipush (v := (-4)) hx hb dX5_put_22 (by decide) ?_
      cases hf
      exact r_iret C h hr hlocks dX5_put_24
  · replace hf := it_f hf hc
    refine lv_iload_n hx hb dX5_put_9 rfl (lv_at hl 0 rfl) ?_
    cases hf
    exact r_iret C h hr hlocks dX5_put_10
def rm_X5_wipe : Room := { frames := 0, cells := 0, slots := 0, locals := 0 }
set_option maxRecDepth 20000 in
theorem lk_X5_wipe_112 : Cond.fieldLink RX5 112 "LineDoublerModel" "padded" "I" ∈ wsX5_wipe := List.mem_of_getElem? (i := 1) (by decide +kernel)
set_option maxRecDepth 20000 in
theorem in_X5_wipe_X5 : ∀ x ∈ wsX50, x ∈ wsX5_wipe := mem_r _ [2, 3, 4, 5, 6, 7, 8, 9, 10, 11, 12] (by decide +kernel)
set_option maxHeartbeats 4000000 in
set_option maxRecDepth 100000 in
theorem c_X5_wipe (l : Launch) (G : va_G) (cI cC cZ : ClassId) (X : List (ClassId × FieldType)) (m0 m1 m2 m3 m4 m5 m6 m7 : Nat) (now : Nat → Int32) (thn : Nat → Int32) (past : Nat → Int32) (kept : Int32) (slt : Nat → Int32) (held : Nat → Int32) (mpad : Nat → Int32) (mpl : Int32) (mat : Int32) (ords : Nat → Int32) (ordn : Int32) (rv : Int32) (mpl' : Int32) (hf : fX5_wipe mpl = some (rv, mpl')) : CT l yX5_wipe wsX5_wipe rm_X5_wipe G (TY cI cC cZ X) [.ref m0] (wMd cI cZ m0 m1 m2 m3 m4 m5 m6 m7 now thn past kept slt held mpad mpl mat ords ordn) (some (.int rv)) (wMd cI cZ m0 m1 m2 m3 m4 m5 m6 m7 now thn past kept slt held mpad mpl' mat ords ordn) := by
  refine CT.of (cc := cX5_wipe) (maxL := 2) (ret := (some .int)) RX5 rfl (by decide) rfl (Nat.le_of_ble_eq_true rfl) ?_
  intro p e s m args below meth c A ls C hr hlocks hnm h hl
  have hx := C.hx
  have hb := C.hb
  have hl : lv_has ls 2 [(0, .ref m0)] := hl
  unfold fX5_wipe at hf
  refine lv_aload_n hx hb dX5_wipe_0 rfl (lv_at hl 0 rfl) ?_
  refine r_get C h 0 7 (ci := 5) (N := 11) (Cn := RX5) (T := TX5) rfl rfl (by decide) in_X5_wipe_X5 lk_X5_wipe_112 rfl dX5_wipe_1 ?_
  refine lv_istore_n (lv' := [(1, .int mpl), (0, .ref m0)]) hx hb dX5_wipe_4 rfl hl (by decide) rfl (fun ls hl => ?_)
  refine lv_aload_n hx hb dX5_wipe_5 rfl (lv_at hl 1 rfl) ?_
  refine lv_iconst (v := 0) hx hb dX5_wipe_6 (by decide) ?_
  refine r_put C h 0 7 (ci := 5) (N := 11) (Cn := RX5) (T := TX5) (ty0 := tyX5) rfl rfl (by decide) in_X5_wipe_X5 tyX5_ok nmX5 lk_X5_wipe_112 rfl rfl rfl (Nat.le_of_ble_eq_true rfl) (wMd cI cZ m0 m1 m2 m3 m4 m5 m6 m7 now thn past kept slt held mpad 0 mat ords ordn) rfl dX5_wipe_7 (fun H locs h => ?_)
  refine lv_iload_n hx hb dX5_wipe_10 rfl (lv_at hl 0 rfl) ?_
  cases hf
  exact r_iret C h hr hlocks dX5_wipe_11
def rm_X5_isAt : Room := { frames := 1, cells := 0, slots := 0, locals := 22 }
set_option maxRecDepth 20000 in
theorem lk_X5_isAt_147 : Cond.fieldLink RX5 147 "LineDoublerModel" "at" "I" ∈ wsX5_isAt := List.mem_of_getElem? (i := 1) (by decide +kernel)
set_option maxRecDepth 20000 in
theorem lk_X5_isAt_112 : Cond.fieldLink RX5 112 "LineDoublerModel" "padded" "I" ∈ wsX5_isAt := List.mem_of_getElem? (i := 2) (by decide +kernel)
set_option maxRecDepth 20000 in
theorem lk_X5_isAt_26 : Cond.fieldLink RX5 26 "LineDoublerModel" "pad" "[I" ∈ wsX5_isAt := List.mem_of_getElem? (i := 3) (by decide +kernel)
set_option maxRecDepth 20000 in
theorem in_X5_isAt_X5 : ∀ x ∈ wsX50, x ∈ wsX5_isAt := mem_r _ [8, 9, 10, 11, 12, 13, 14, 15, 16, 17, 18] (by decide +kernel)
set_option maxRecDepth 20000 in
theorem cw_X5_isAt_X5_in_40 {s : State} {args : Array Value} (hts : ∀ w ∈ wsX5_isAt, w.before args s = true) : CallB rm_X5_isAt s args RX5 40 yX5_in cX5_in 3 (some .boolean) wsX5_in rm_X5_in 0 0 3 ∧ (Cond.static yX5_in).before args s = true :=
  va_cwS 3 hts gX5_isAt_X5_in rfl rfl rfl (by decide +kernel) ⟨Nat.le_of_ble_eq_true rfl, Nat.le_of_ble_eq_true rfl⟩
set_option maxHeartbeats 4000000 in
set_option maxRecDepth 100000 in
theorem c_X5_isAt (l : Launch) (G : va_G) (cI cC cZ : ClassId) (X : List (ClassId × FieldType)) (m0 m1 m2 m3 m4 m5 m6 m7 : Nat) (now : Nat → Int32) (thn : Nat → Int32) (past : Nat → Int32) (kept : Int32) (slt : Nat → Int32) (held : Nat → Int32) (mpad : Nat → Int32) (mpl : Int32) (mat : Int32) (ords : Nat → Int32) (ordn : Int32) (x1 : Int32) (x2 : Int32) (rv : Int32) (hf : fX5_isAt mpad mpl mat x1 x2 = some (rv)) : CT l yX5_isAt wsX5_isAt rm_X5_isAt G (TY cI cC cZ X) [.ref m0, .int x1, .int x2] (wMd cI cZ m0 m1 m2 m3 m4 m5 m6 m7 now thn past kept slt held mpad mpl mat ords ordn) (some (.int rv)) (wMd cI cZ m0 m1 m2 m3 m4 m5 m6 m7 now thn past kept slt held mpad mpl mat ords ordn) := by
  refine CT.of (cc := cX5_isAt) (maxL := 3) (ret := (some .boolean)) RX5 rfl (by decide) rfl (Nat.le_of_ble_eq_true rfl) ?_
  intro p e s m args below meth c A ls C hr hlocks hnm h hl
  have hx := C.hx
  have hb := C.hb
  have hl : lv_has ls 3 [(0, .ref m0), (1, .int x1), (2, .int x2)] := hl
  unfold fX5_isAt at hf
  refine lv_aload_n hx hb dX5_isAt_0 rfl (lv_at hl 0 rfl) ?_
  refine r_get C h 0 8 (ci := 5) (N := 11) (Cn := RX5) (T := TX5) rfl rfl (by decide) in_X5_isAt_X5 lk_X5_isAt_147 rfl dX5_isAt_1 ?_
  refine lv_aload_n hx hb dX5_isAt_4 rfl (lv_at hl 0 rfl) ?_
  refine r_get C h 0 7 (ci := 5) (N := 11) (Cn := RX5) (T := TX5) rfl rfl (by decide) in_X5_isAt_X5 lk_X5_isAt_112 rfl dX5_isAt_5 ?_
  refine lv_icmp_ge (tgt := 32) hx hb dX5_isAt_8 (by decide) (fun hc => ?_) (fun hc => ?_)
  · replace hf := it_t hf hc
    refine lv_iconst (v := 0) hx hb dX5_isAt_32 (by decide) ?_
    cases hf
    exact r_zret C h hr hlocks rfl dX5_isAt_33
  · replace hf := it_f hf hc
    refine lv_aload_n hx hb dX5_isAt_11 rfl (lv_at hl 0 rfl) ?_
    refine r_get C h 0 6 (ci := 5) (N := 11) (Cn := RX5) (T := TX5) rfl rfl (by decide) in_X5_isAt_X5 lk_X5_isAt_26 rfl dX5_isAt_12 ?_
    refine lv_aload_n hx hb dX5_isAt_15 rfl (lv_at hl 0 rfl) ?_
    refine r_get C h 0 8 (ci := 5) (N := 11) (Cn := RX5) (T := TX5) rfl rfl (by decide) in_X5_isAt_X5 lk_X5_isAt_147 rfl dX5_isAt_16 ?_
    obtain ⟨j_1, hj_1, hf⟩ := chk_use hf
    refine r_ald C h 6 rfl rfl hj_1 dX5_isAt_19 ?_
    refine lv_iload_n hx hb dX5_isAt_20 rfl (lv_at hl 1 rfl) ?_
    refine lv_iload_n hx hb dX5_isAt_21 rfl (lv_at hl 2 rfl) ?_
    obtain ⟨r_2, hq_3, hf⟩ := ob1_use hf
    refine r_callS C h (cw_X5_isAt_X5_in_40 C.hts) (rest := []) (c_X5_in l G cI cC cZ X (mpad j_1) x1 x2 r_2 hq_3) [] rfl rfl rfl rfl hl.1 rfl (Nat.le_of_ble_eq_true rfl) ⟨Nat.le_of_ble_eq_true rfl, Nat.le_of_ble_eq_true rfl⟩ (wMd cI cZ m0 m1 m2 m3 m4 m5 m6 m7 now thn past kept slt held mpad mpl mat ords ordn) rfl rfl dX5_isAt_22 (fun H locs h => ?_)
    refine lv_if_eq (tgt := 32) hx hb dX5_isAt_25 (by decide) (fun hc => ?_) (fun hc => ?_)
    · replace hf := it_t hf hc
      refine lv_iconst (v := 0) hx hb dX5_isAt_32 (by decide) ?_
      cases hf
      exact r_zret C h hr hlocks rfl dX5_isAt_33
    · replace hf := it_f hf hc
      refine lv_iconst (v := 1) hx hb dX5_isAt_28 (by decide) ?_
      refine lv_goto (tgt := 33) hx hb dX5_isAt_29 (by decide) ?_
      cases hf
      exact r_zret C h hr hlocks rfl dX5_isAt_33
def rm_X5_isSign : Room := { frames := 2, cells := 0, slots := 0, locals := 44 }
set_option maxRecDepth 20000 in
theorem lk_X5_isSign_147 : Cond.fieldLink RX5 147 "LineDoublerModel" "at" "I" ∈ wsX5_isSign := List.mem_of_getElem? (i := 1) (by decide +kernel)
set_option maxRecDepth 20000 in
theorem in_X5_isSign_X5 : ∀ x ∈ wsX50, x ∈ wsX5_isSign := mem_r _ [12, 13, 14, 15, 16, 17, 18, 19, 20, 21, 22] (by decide +kernel)
set_option maxRecDepth 20000 in
theorem cw_X5_isSign_X5_isAt_150 {s : State} {args : Array Value} (hts : ∀ w ∈ wsX5_isSign, w.before args s = true) : CallW rm_X5_isSign s args RX5 RX5 150 yX5_isAt cX5_isAt 3 (some .boolean) wsX5_isAt rm_X5_isAt 0 0 2 :=
  cwV 2 hts gX5_isSign_X5_isAt rfl rfl rfl (by decide +kernel) ⟨Nat.le_of_ble_eq_true rfl, Nat.le_of_ble_eq_true rfl⟩
set_option maxHeartbeats 4000000 in
set_option maxRecDepth 100000 in
theorem c_X5_isSign (l : Launch) (G : va_G) (cI cC cZ : ClassId) (X : List (ClassId × FieldType)) (m0 m1 m2 m3 m4 m5 m6 m7 : Nat) (now : Nat → Int32) (thn : Nat → Int32) (past : Nat → Int32) (kept : Int32) (slt : Nat → Int32) (held : Nat → Int32) (mpad : Nat → Int32) (mpl : Int32) (mat : Int32) (ords : Nat → Int32) (ordn : Int32) (x1 : Int32) (rv : Int32) (mat' : Int32) (hf : fX5_isSign mpad mpl mat x1 = some (rv, mat')) : CT l yX5_isSign wsX5_isSign rm_X5_isSign G (TY cI cC cZ X) [.ref m0, .int x1] (wMd cI cZ m0 m1 m2 m3 m4 m5 m6 m7 now thn past kept slt held mpad mpl mat ords ordn) (some (.int rv)) (wMd cI cZ m0 m1 m2 m3 m4 m5 m6 m7 now thn past kept slt held mpad mpl mat' ords ordn) := by
  refine CT.of (cc := cX5_isSign) (maxL := 3) (ret := (some .boolean)) RX5 rfl (by decide) rfl (Nat.le_of_ble_eq_true rfl) ?_
  intro p e s m args below meth c A ls C hr hlocks hnm h hl
  have hx := C.hx
  have hb := C.hb
  have hl : lv_has ls 3 [(0, .ref m0), (1, .int x1)] := hl
  unfold fX5_isSign at hf
  refine lv_aload_n hx hb dX5_isSign_0 rfl (lv_at hl 0 rfl) ?_
  refine lv_iload_n hx hb dX5_isSign_1 rfl (lv_at hl 1 rfl) ?_
  refine lv_iload_n hx hb dX5_isSign_2 rfl (lv_at hl 1 rfl) ?_
  obtain ⟨r_1, hq_2, hf⟩ := ob1_use hf
  refine r_callV C h (cw_X5_isSign_X5_isAt_150 C.hts) (rest := []) (ci := 5) (N := 11) (Cn := RX5) (T := TX5) (c_X5_isAt l G cI cC cZ X m0 m1 m2 m3 m4 m5 m6 m7 now thn past kept slt held mpad mpl mat ords ordn x1 x1 r_1 hq_2) [0, 1, 2, 3, 4, 5, 6, 7] rfl rfl rfl rfl 0 rfl rfl hl.1 rfl (Nat.le_of_ble_eq_true rfl) ⟨Nat.le_of_ble_eq_true rfl, Nat.le_of_ble_eq_true rfl⟩ (wMd cI cZ m0 m1 m2 m3 m4 m5 m6 m7 now thn past kept slt held mpad mpl mat ords ordn) rfl rfl dX5_isSign_3 (fun H locs h => ?_)
  refine lv_istore_n (lv' := [(2, .int r_1), (0, .ref m0), (1, .int x1)]) hx hb dX5_isSign_6 rfl hl (by decide) rfl (fun ls hl => ?_)
  refine lv_aload_n hx hb dX5_isSign_7 rfl (lv_at hl 1 rfl) ?_
  refine lv_dup hx hb dX5_isSign_8 rfl ?_
  refine r_get C h 0 8 (ci := 5) (N := 11) (Cn := RX5) (T := TX5) rfl rfl (by decide) in_X5_isSign_X5 lk_X5_isSign_147 rfl dX5_isSign_9 ?_
  refine lv_iload_n hx hb dX5_isSign_12 rfl (lv_at hl 0 rfl) ?_
  refine lv_if_eq (tgt := 20) hx hb dX5_isSign_13 (by decide) (fun hc => ?_) (fun hc => ?_)
  · replace hf := it_t hf hc
    refine lv_iconst (v := 0) hx hb dX5_isSign_20 (by decide) ?_
    refine lv_iadd hx hb dX5_isSign_21 ?_
    refine lv_topi (fun mat_3 emat_3 => ?_)
    replace hf := nm_use hf emat_3
    refine r_put C h 0 8 (ci := 5) (N := 11) (Cn := RX5) (T := TX5) (ty0 := tyX5) rfl rfl (by decide) in_X5_isSign_X5 tyX5_ok nmX5 lk_X5_isSign_147 rfl rfl rfl (Nat.le_of_ble_eq_true rfl) (wMd cI cZ m0 m1 m2 m3 m4 m5 m6 m7 now thn past kept slt held mpad mpl mat_3 ords ordn) rfl dX5_isSign_22 (fun H locs h => ?_)
    refine lv_iload_n hx hb dX5_isSign_25 rfl (lv_at hl 0 rfl) ?_
    obtain ⟨hz, hf⟩ := nd_use hf
    cases hf
    exact r_zret C h hr hlocks (by rcases hz with hz | hz <;> rw [hz] <;> rfl) dX5_isSign_26
  · replace hf := it_f hf hc
    refine lv_iconst (v := 1) hx hb dX5_isSign_16 (by decide) ?_
    refine lv_goto (tgt := 21) hx hb dX5_isSign_17 (by decide) ?_
    refine lv_iadd hx hb dX5_isSign_21 ?_
    refine lv_topi (fun mat_4 emat_4 => ?_)
    replace hf := nm_use hf emat_4
    refine r_put C h 0 8 (ci := 5) (N := 11) (Cn := RX5) (T := TX5) (ty0 := tyX5) rfl rfl (by decide) in_X5_isSign_X5 tyX5_ok nmX5 lk_X5_isSign_147 rfl rfl rfl (Nat.le_of_ble_eq_true rfl) (wMd cI cZ m0 m1 m2 m3 m4 m5 m6 m7 now thn past kept slt held mpad mpl mat_4 ords ordn) rfl dX5_isSign_22 (fun H locs h => ?_)
    refine lv_iload_n hx hb dX5_isSign_25 rfl (lv_at hl 0 rfl) ?_
    obtain ⟨hz, hf⟩ := nd_use hf
    cases hf
    exact r_zret C h hr hlocks (by rcases hz with hz | hz <;> rw [hz] <;> rfl) dX5_isSign_26
def rm_X5_isNumber : Room := { frames := 2, cells := 0, slots := 0, locals := 44 }
set_option maxRecDepth 20000 in
theorem lk_X5_isNumber_26 : Cond.fieldLink RX5 26 "LineDoublerModel" "pad" "[I" ∈ wsX5_isNumber := List.mem_of_getElem? (i := 1) (by decide +kernel)
set_option maxRecDepth 20000 in
theorem lk_X5_isNumber_147 : Cond.fieldLink RX5 147 "LineDoublerModel" "at" "I" ∈ wsX5_isNumber := List.mem_of_getElem? (i := 2) (by decide +kernel)
set_option maxRecDepth 20000 in
theorem lk_X5_isNumber_29 : Cond.fieldLink RX5 29 "LineDoublerModel" "orders" "[I" ∈ wsX5_isNumber := List.mem_of_getElem? (i := 3) (by decide +kernel)
set_option maxRecDepth 20000 in
theorem lk_X5_isNumber_153 : Cond.fieldLink RX5 153 "LineDoublerModel" "ordered" "I" ∈ wsX5_isNumber := List.mem_of_getElem? (i := 4) (by decide +kernel)
set_option maxRecDepth 20000 in
theorem in_X5_isNumber_X5 : ∀ x ∈ wsX50, x ∈ wsX5_isNumber := mem_r _ [14, 15, 16, 17, 18, 19, 20, 21, 22, 23, 24] (by decide +kernel)
set_option maxRecDepth 20000 in
theorem cw_X5_isNumber_X5_isAt_150 {s : State} {args : Array Value} (hts : ∀ w ∈ wsX5_isNumber, w.before args s = true) : CallW rm_X5_isNumber s args RX5 RX5 150 yX5_isAt cX5_isAt 3 (some .boolean) wsX5_isAt rm_X5_isAt 0 0 2 :=
  cwV 2 hts gX5_isNumber_X5_isAt rfl rfl rfl (by decide +kernel) ⟨Nat.le_of_ble_eq_true rfl, Nat.le_of_ble_eq_true rfl⟩
set_option maxHeartbeats 4000000 in
set_option maxRecDepth 100000 in
theorem c_X5_isNumber (l : Launch) (G : va_G) (cI cC cZ : ClassId) (X : List (ClassId × FieldType)) (m0 m1 m2 m3 m4 m5 m6 m7 : Nat) (now : Nat → Int32) (thn : Nat → Int32) (past : Nat → Int32) (kept : Int32) (slt : Nat → Int32) (held : Nat → Int32) (mpad : Nat → Int32) (mpl : Int32) (mat : Int32) (ords : Nat → Int32) (ordn : Int32) (x1 : Int32) (rv : Int32) (mat' : Int32) (ords' : Nat → Int32) (hf : fX5_isNumber mpad mpl mat ords ordn x1 = some (rv, mat', ords')) : CT l yX5_isNumber wsX5_isNumber rm_X5_isNumber G (TY cI cC cZ X) [.ref m0, .int x1] (wMd cI cZ m0 m1 m2 m3 m4 m5 m6 m7 now thn past kept slt held mpad mpl mat ords ordn) (some (.int rv)) (wMd cI cZ m0 m1 m2 m3 m4 m5 m6 m7 now thn past kept slt held mpad mpl mat' ords' ordn) := by
  refine CT.of (cc := cX5_isNumber) (maxL := 3) (ret := (some .boolean)) RX5 rfl (by decide) rfl (Nat.le_of_ble_eq_true rfl) ?_
  intro p e s m args below meth c A ls C hr hlocks hnm h hl
  have hx := C.hx
  have hb := C.hb
  have hl : lv_has ls 3 [(0, .ref m0), (1, .int x1)] := hl
  have cut_36 : ∀ (n : Nat) (mat : Int32) (ords : Nat → Int32) (x1 : Int32) (x2 : Int32) (H : Heap) (locs : List Loc) (ls : Array Slot), Hx s G A (wMd cI cZ m0 m1 m2 m3 m4 m5 m6 m7 now thn past kept slt held mpad mpl mat ords ordn) H locs → lv_has ls 3 [(0, .ref m0), (1, .int x1), (2, .int x2)] → fX5_isNumber_36 n mpad mpl mat ords ordn x1 x2 = some (rv, mat', ords') → W p l e rm_X5_isNumber s m args below meth c H locs 0 0 (MQ below (Qx G (some (.int rv)) (wMd cI cZ m0 m1 m2 m3 m4 m5 m6 m7 now thn past kept slt held mpad mpl mat' ords' ordn) A) args s 0 0 A) (F0 m 36 ls []) := by
    intro n
    induction n with
    | zero =>
      intro mat ords x1 x2 H locs ls h hl hf
      exact (nn_some _ hf).elim
    | succ n ih =>
      intro mat ords x1 x2 H locs ls h hl hf
      have hf : fX5_isNumber_36_b (fX5_isNumber_36 n) mpad mpl mat ords ordn x1 x2 = some (rv, mat', ords') := hf
      unfold fX5_isNumber_36_b at hf
      refine lv_iload_n hx hb dX5_isNumber_36 rfl (lv_at hl 2 rfl) ?_
      refine lv_if_le (tgt := 88) hx hb dX5_isNumber_37 (by decide) (fun hc => ?_) (fun hc => ?_)
      · replace hf := it_t hf hc
        refine lv_aload_n hx hb dX5_isNumber_88 rfl (lv_at hl 0 rfl) ?_
        refine r_get C h 0 9 (ci := 5) (N := 11) (Cn := RX5) (T := TX5) rfl rfl (by decide) in_X5_isNumber_X5 lk_X5_isNumber_29 rfl dX5_isNumber_89 ?_
        refine lv_iconst (v := 3) hx hb dX5_isNumber_92 (by decide) ?_
        refine lv_aload_n hx hb dX5_isNumber_93 rfl (lv_at hl 0 rfl) ?_
        refine r_get C h 0 10 (ci := 5) (N := 11) (Cn := RX5) (T := TX5) rfl rfl (by decide) in_X5_isNumber_X5 lk_X5_isNumber_153 rfl dX5_isNumber_94 ?_
        refine lv_imul hx hb dX5_isNumber_97 ?_
        refine lv_iload_n hx hb dX5_isNumber_98 rfl (lv_at hl 1 rfl) ?_
        refine lv_iadd hx hb dX5_isNumber_99 ?_
        refine lv_iload_n hx hb dX5_isNumber_100 rfl (lv_at hl 2 rfl) ?_
        obtain ⟨j_1, hj_1, hf⟩ := chk_use hf
        refine r_ast C h 7 rfl rfl hj_1 (fun z__ => (wMd cI cZ m0 m1 m2 m3 m4 m5 m6 m7 now thn past kept slt held mpad mpl mat z__ ordn)) (fun _ => rfl) dX5_isNumber_101 (fun ords_2 eords_2 H locs h => ?_)
        replace hf := nm_use hf eords_2
        refine lv_iconst (v := 1) hx hb dX5_isNumber_102 (by decide) ?_
        cases hf
        exact r_zret C h hr hlocks rfl dX5_isNumber_103
      · replace hf := it_f hf hc
        refine lv_iload_n hx hb dX5_isNumber_40 rfl (lv_at hl 2 rfl) ?_
        refine lv_bipush (v := 100) hx hb dX5_isNumber_41 (by decide) ?_
        refine lv_icmp_ge (tgt := 88) hx hb dX5_isNumber_43 (by decide) (fun hc => ?_) (fun hc => ?_)
        · replace hf := it_t hf hc
          refine lv_aload_n hx hb dX5_isNumber_88 rfl (lv_at hl 0 rfl) ?_
          refine r_get C h 0 9 (ci := 5) (N := 11) (Cn := RX5) (T := TX5) rfl rfl (by decide) in_X5_isNumber_X5 lk_X5_isNumber_29 rfl dX5_isNumber_89 ?_
          refine lv_iconst (v := 3) hx hb dX5_isNumber_92 (by decide) ?_
          refine lv_aload_n hx hb dX5_isNumber_93 rfl (lv_at hl 0 rfl) ?_
          refine r_get C h 0 10 (ci := 5) (N := 11) (Cn := RX5) (T := TX5) rfl rfl (by decide) in_X5_isNumber_X5 lk_X5_isNumber_153 rfl dX5_isNumber_94 ?_
          refine lv_imul hx hb dX5_isNumber_97 ?_
          refine lv_iload_n hx hb dX5_isNumber_98 rfl (lv_at hl 1 rfl) ?_
          refine lv_iadd hx hb dX5_isNumber_99 ?_
          refine lv_iload_n hx hb dX5_isNumber_100 rfl (lv_at hl 2 rfl) ?_
          obtain ⟨j_3, hj_3, hf⟩ := chk_use hf
          refine r_ast C h 7 rfl rfl hj_3 (fun z__ => (wMd cI cZ m0 m1 m2 m3 m4 m5 m6 m7 now thn past kept slt held mpad mpl mat z__ ordn)) (fun _ => rfl) dX5_isNumber_101 (fun ords_4 eords_4 H locs h => ?_)
          replace hf := nm_use hf eords_4
          refine lv_iconst (v := 1) hx hb dX5_isNumber_102 (by decide) ?_
          cases hf
          exact r_zret C h hr hlocks rfl dX5_isNumber_103
        · replace hf := it_f hf hc
          refine lv_aload_n hx hb dX5_isNumber_46 rfl (lv_at hl 0 rfl) ?_
          refine lv_bipush (v := 48) hx hb dX5_isNumber_47 (by decide) ?_
          refine lv_bipush (v := 57) hx hb dX5_isNumber_49 (by decide) ?_
          obtain ⟨r_5, hq_6, hf⟩ := ob1_use hf
          refine r_callV C h (cw_X5_isNumber_X5_isAt_150 C.hts) (rest := []) (ci := 5) (N := 11) (Cn := RX5) (T := TX5) (c_X5_isAt l G cI cC cZ X m0 m1 m2 m3 m4 m5 m6 m7 now thn past kept slt held mpad mpl mat ords ordn (48 : Int32) (57 : Int32) r_5 hq_6) [0, 1, 2, 3, 4, 5, 6, 7] rfl rfl rfl rfl 0 rfl rfl hl.1 rfl (Nat.le_of_ble_eq_true rfl) ⟨Nat.le_of_ble_eq_true rfl, Nat.le_of_ble_eq_true rfl⟩ (wMd cI cZ m0 m1 m2 m3 m4 m5 m6 m7 now thn past kept slt held mpad mpl mat ords ordn) rfl rfl dX5_isNumber_51 (fun H locs h => ?_)
          refine lv_if_eq (tgt := 88) hx hb dX5_isNumber_54 (by decide) (fun hc => ?_) (fun hc => ?_)
          · replace hf := it_t hf hc
            refine lv_aload_n hx hb dX5_isNumber_88 rfl (lv_at hl 0 rfl) ?_
            refine r_get C h 0 9 (ci := 5) (N := 11) (Cn := RX5) (T := TX5) rfl rfl (by decide) in_X5_isNumber_X5 lk_X5_isNumber_29 rfl dX5_isNumber_89 ?_
            refine lv_iconst (v := 3) hx hb dX5_isNumber_92 (by decide) ?_
            refine lv_aload_n hx hb dX5_isNumber_93 rfl (lv_at hl 0 rfl) ?_
            refine r_get C h 0 10 (ci := 5) (N := 11) (Cn := RX5) (T := TX5) rfl rfl (by decide) in_X5_isNumber_X5 lk_X5_isNumber_153 rfl dX5_isNumber_94 ?_
            refine lv_imul hx hb dX5_isNumber_97 ?_
            refine lv_iload_n hx hb dX5_isNumber_98 rfl (lv_at hl 1 rfl) ?_
            refine lv_iadd hx hb dX5_isNumber_99 ?_
            refine lv_iload_n hx hb dX5_isNumber_100 rfl (lv_at hl 2 rfl) ?_
            obtain ⟨j_7, hj_7, hf⟩ := chk_use hf
            refine r_ast C h 7 rfl rfl hj_7 (fun z__ => (wMd cI cZ m0 m1 m2 m3 m4 m5 m6 m7 now thn past kept slt held mpad mpl mat z__ ordn)) (fun _ => rfl) dX5_isNumber_101 (fun ords_8 eords_8 H locs h => ?_)
            replace hf := nm_use hf eords_8
            refine lv_iconst (v := 1) hx hb dX5_isNumber_102 (by decide) ?_
            cases hf
            exact r_zret C h hr hlocks rfl dX5_isNumber_103
          · replace hf := it_f hf hc
            refine lv_bipush (v := 10) hx hb dX5_isNumber_57 (by decide) ?_
            refine lv_iload_n hx hb dX5_isNumber_59 rfl (lv_at hl 2 rfl) ?_
            refine lv_imul hx hb dX5_isNumber_60 ?_
            refine lv_aload_n hx hb dX5_isNumber_61 rfl (lv_at hl 0 rfl) ?_
            refine r_get C h 0 6 (ci := 5) (N := 11) (Cn := RX5) (T := TX5) rfl rfl (by decide) in_X5_isNumber_X5 lk_X5_isNumber_26 rfl dX5_isNumber_62 ?_
            refine lv_aload_n hx hb dX5_isNumber_65 rfl (lv_at hl 0 rfl) ?_
            refine r_get C h 0 8 (ci := 5) (N := 11) (Cn := RX5) (T := TX5) rfl rfl (by decide) in_X5_isNumber_X5 lk_X5_isNumber_147 rfl dX5_isNumber_66 ?_
            obtain ⟨j_9, hj_9, hf⟩ := chk_use hf
            refine r_ald C h 6 rfl rfl hj_9 dX5_isNumber_69 ?_
            refine lv_iadd hx hb dX5_isNumber_70 ?_
            refine lv_bipush (v := 48) hx hb dX5_isNumber_71 (by decide) ?_
            refine lv_isub hx hb dX5_isNumber_73 ?_
            refine lv_topi (fun x2_10 ex2_10 => ?_)
            replace hf := nm_use hf ex2_10
            refine lv_istore_n (lv' := [(2, .int x2_10), (0, .ref m0), (1, .int x1)]) hx hb dX5_isNumber_74 rfl hl (by decide) rfl (fun ls hl => ?_)
            refine lv_aload_n hx hb dX5_isNumber_75 rfl (lv_at hl 1 rfl) ?_
            refine lv_dup hx hb dX5_isNumber_76 rfl ?_
            refine r_get C h 0 8 (ci := 5) (N := 11) (Cn := RX5) (T := TX5) rfl rfl (by decide) in_X5_isNumber_X5 lk_X5_isNumber_147 rfl dX5_isNumber_77 ?_
            refine lv_iconst (v := 1) hx hb dX5_isNumber_80 (by decide) ?_
            refine lv_iadd hx hb dX5_isNumber_81 ?_
            refine lv_topi (fun mat_11 emat_11 => ?_)
            replace hf := nm_use hf emat_11
            refine r_put C h 0 8 (ci := 5) (N := 11) (Cn := RX5) (T := TX5) (ty0 := tyX5) rfl rfl (by decide) in_X5_isNumber_X5 tyX5_ok nmX5 lk_X5_isNumber_147 rfl rfl rfl (Nat.le_of_ble_eq_true rfl) (wMd cI cZ m0 m1 m2 m3 m4 m5 m6 m7 now thn past kept slt held mpad mpl mat_11 ords ordn) rfl dX5_isNumber_82 (fun H locs h => ?_)
            refine lv_goto (tgt := 36) hx hb dX5_isNumber_85 (by decide) ?_
            exact ih mat_11 ords x1 x2_10 _ _ _ h (lv_sub hl [1, 2, 0] rfl) hf
  unfold fX5_isNumber at hf
  refine lv_aload_n hx hb dX5_isNumber_0 rfl (lv_at hl 0 rfl) ?_
  refine lv_bipush (v := 48) hx hb dX5_isNumber_1 (by decide) ?_
  refine lv_bipush (v := 57) hx hb dX5_isNumber_3 (by decide) ?_
  obtain ⟨r_1, hq_2, hf⟩ := ob1_use hf
  refine r_callV C h (cw_X5_isNumber_X5_isAt_150 C.hts) (rest := []) (ci := 5) (N := 11) (Cn := RX5) (T := TX5) (c_X5_isAt l G cI cC cZ X m0 m1 m2 m3 m4 m5 m6 m7 now thn past kept slt held mpad mpl mat ords ordn (48 : Int32) (57 : Int32) r_1 hq_2) [0, 1, 2, 3, 4, 5, 6, 7] rfl rfl rfl rfl 0 rfl rfl hl.1 rfl (Nat.le_of_ble_eq_true rfl) ⟨Nat.le_of_ble_eq_true rfl, Nat.le_of_ble_eq_true rfl⟩ (wMd cI cZ m0 m1 m2 m3 m4 m5 m6 m7 now thn past kept slt held mpad mpl mat ords ordn) rfl rfl dX5_isNumber_5 (fun H locs h => ?_)
  refine lv_if_ne (tgt := 13) hx hb dX5_isNumber_8 (by decide) (fun hc => ?_) (fun hc => ?_)
  · replace hf := it_f hf hc
    refine lv_aload_n hx hb dX5_isNumber_13 rfl (lv_at hl 0 rfl) ?_
    refine r_get C h 0 6 (ci := 5) (N := 11) (Cn := RX5) (T := TX5) rfl rfl (by decide) in_X5_isNumber_X5 lk_X5_isNumber_26 rfl dX5_isNumber_14 ?_
    refine lv_aload_n hx hb dX5_isNumber_17 rfl (lv_at hl 0 rfl) ?_
    refine r_get C h 0 8 (ci := 5) (N := 11) (Cn := RX5) (T := TX5) rfl rfl (by decide) in_X5_isNumber_X5 lk_X5_isNumber_147 rfl dX5_isNumber_18 ?_
    obtain ⟨j_3, hj_3, hf⟩ := chk_use hf
    refine r_ald C h 6 rfl rfl hj_3 dX5_isNumber_21 ?_
    refine lv_bipush (v := 48) hx hb dX5_isNumber_22 (by decide) ?_
    refine lv_isub hx hb dX5_isNumber_24 ?_
    refine lv_topi (fun x2_4 ex2_4 => ?_)
    replace hf := nm_use hf ex2_4
    refine lv_istore_n (lv' := [(2, .int x2_4), (0, .ref m0), (1, .int x1)]) hx hb dX5_isNumber_25 rfl hl (by decide) rfl (fun ls hl => ?_)
    refine lv_aload_n hx hb dX5_isNumber_26 rfl (lv_at hl 1 rfl) ?_
    refine lv_dup hx hb dX5_isNumber_27 rfl ?_
    refine r_get C h 0 8 (ci := 5) (N := 11) (Cn := RX5) (T := TX5) rfl rfl (by decide) in_X5_isNumber_X5 lk_X5_isNumber_147 rfl dX5_isNumber_28 ?_
    refine lv_iconst (v := 1) hx hb dX5_isNumber_31 (by decide) ?_
    refine lv_iadd hx hb dX5_isNumber_32 ?_
    refine lv_topi (fun mat_5 emat_5 => ?_)
    replace hf := nm_use hf emat_5
    refine r_put C h 0 8 (ci := 5) (N := 11) (Cn := RX5) (T := TX5) (ty0 := tyX5) rfl rfl (by decide) in_X5_isNumber_X5 tyX5_ok nmX5 lk_X5_isNumber_147 rfl rfl rfl (Nat.le_of_ble_eq_true rfl) (wMd cI cZ m0 m1 m2 m3 m4 m5 m6 m7 now thn past kept slt held mpad mpl mat_5 ords ordn) rfl dX5_isNumber_33 (fun H locs h => ?_)
    exact cut_36 KF mat_5 ords x1 x2_4 _ _ _ h (lv_sub hl [1, 2, 0] rfl) hf
  · replace hf := it_t hf hc
    refine lv_iconst (v := 0) hx hb dX5_isNumber_11 (by decide) ?_
    cases hf
    exact r_zret C h hr hlocks rfl dX5_isNumber_12
def rm_X5_isOrder : Room := { frames := 3, cells := 0, slots := 0, locals := 66 }
set_option maxRecDepth 20000 in
theorem lk_X5_isOrder_147 : Cond.fieldLink RX5 147 "LineDoublerModel" "at" "I" ∈ wsX5_isOrder := List.mem_of_getElem? (i := 1) (by decide +kernel)
set_option maxRecDepth 20000 in
theorem lk_X5_isOrder_112 : Cond.fieldLink RX5 112 "LineDoublerModel" "padded" "I" ∈ wsX5_isOrder := List.mem_of_getElem? (i := 2) (by decide +kernel)
set_option maxRecDepth 20000 in
theorem lk_X5_isOrder_29 : Cond.fieldLink RX5 29 "LineDoublerModel" "orders" "[I" ∈ wsX5_isOrder := List.mem_of_getElem? (i := 4) (by decide +kernel)
set_option maxRecDepth 20000 in
theorem lk_X5_isOrder_153 : Cond.fieldLink RX5 153 "LineDoublerModel" "ordered" "I" ∈ wsX5_isOrder := List.mem_of_getElem? (i := 5) (by decide +kernel)
set_option maxRecDepth 20000 in
theorem lk_X5_isOrder_26 : Cond.fieldLink RX5 26 "LineDoublerModel" "pad" "[I" ∈ wsX5_isOrder := List.mem_of_getElem? (i := 3) (by decide +kernel)
set_option maxRecDepth 20000 in
theorem in_X5_isOrder_X5 : ∀ x ∈ wsX50, x ∈ wsX5_isOrder := mem_r _ [22, 23, 24, 25, 26, 27, 28, 29, 30, 31, 32] (by decide +kernel)
set_option maxRecDepth 20000 in
theorem cw_X5_isOrder_X5_isNumber_156 {s : State} {args : Array Value} (hts : ∀ w ∈ wsX5_isOrder, w.before args s = true) : CallW rm_X5_isOrder s args RX5 RX5 156 yX5_isNumber cX5_isNumber 3 (some .boolean) wsX5_isNumber rm_X5_isNumber 0 0 1 :=
  cwV 1 hts gX5_isOrder_X5_isNumber rfl rfl rfl (by decide +kernel) ⟨Nat.le_of_ble_eq_true rfl, Nat.le_of_ble_eq_true rfl⟩
set_option maxRecDepth 20000 in
theorem cw_X5_isOrder_X5_isSign_159 {s : State} {args : Array Value} (hts : ∀ w ∈ wsX5_isOrder, w.before args s = true) : CallW rm_X5_isOrder s args RX5 RX5 159 yX5_isSign cX5_isSign 3 (some .boolean) wsX5_isSign rm_X5_isSign 0 0 1 :=
  cwV 1 hts gX5_isOrder_X5_isSign rfl rfl rfl (by decide +kernel) ⟨Nat.le_of_ble_eq_true rfl, Nat.le_of_ble_eq_true rfl⟩
theorem sw_df_X5_isOrder_38 (x : Int32) (h0 : ¬ x = 60) (h1 : ¬ x = 62) (h2 : ¬ x = 105) (h3 : ¬ x = 111) (h4 : ¬ x = 116) (h5 : ¬ x = 118) : Op.lookupswitch.offset (#[(60, 58), (62, 58), (105, 58), (111, 58), (116, 58), (118, 74)] : Array (Int × Int)).toList (115) x.toInt = 115 := (lv_osw h0 rfl).trans ((lv_osw h1 rfl).trans ((lv_osw h2 rfl).trans ((lv_osw h3 rfl).trans ((lv_osw h4 rfl).trans ((lv_osw h5 rfl).trans (rfl))))))
set_option maxHeartbeats 4000000 in
set_option maxRecDepth 100000 in
theorem c_X5_isOrder (l : Launch) (G : va_G) (cI cC cZ : ClassId) (X : List (ClassId × FieldType)) (m0 m1 m2 m3 m4 m5 m6 m7 : Nat) (now : Nat → Int32) (thn : Nat → Int32) (past : Nat → Int32) (kept : Int32) (slt : Nat → Int32) (held : Nat → Int32) (mpad : Nat → Int32) (mpl : Int32) (mat : Int32) (ords : Nat → Int32) (ordn : Int32) (rv : Int32) (mat' : Int32) (ords' : Nat → Int32) (hf : fX5_isOrder mpad mpl mat ords ordn = some (rv, mat', ords')) : CT l yX5_isOrder wsX5_isOrder rm_X5_isOrder G (TY cI cC cZ X) [.ref m0] (wMd cI cZ m0 m1 m2 m3 m4 m5 m6 m7 now thn past kept slt held mpad mpl mat ords ordn) (some (.int rv)) (wMd cI cZ m0 m1 m2 m3 m4 m5 m6 m7 now thn past kept slt held mpad mpl mat' ords' ordn) := by
  refine CT.of (cc := cX5_isOrder) (maxL := 2) (ret := (some .boolean)) RX5 rfl (by decide) rfl (Nat.le_of_ble_eq_true rfl) ?_
  intro p e s m args below meth c A ls C hr hlocks hnm h hl
  have hx := C.hx
  have hb := C.hb
  have hl : lv_has ls 2 [(0, .ref m0)] := hl
  unfold fX5_isOrder at hf
  refine lv_aload_n hx hb dX5_isOrder_0 rfl (lv_at hl 0 rfl) ?_
  refine r_get C h 0 8 (ci := 5) (N := 11) (Cn := RX5) (T := TX5) rfl rfl (by decide) in_X5_isOrder_X5 lk_X5_isOrder_147 rfl dX5_isOrder_1 ?_
  refine lv_aload_n hx hb dX5_isOrder_4 rfl (lv_at hl 0 rfl) ?_
  refine r_get C h 0 7 (ci := 5) (N := 11) (Cn := RX5) (T := TX5) rfl rfl (by decide) in_X5_isOrder_X5 lk_X5_isOrder_112 rfl dX5_isOrder_5 ?_
  refine lv_icmp_ge (tgt := 23) hx hb dX5_isOrder_8 (by decide) (fun hc => ?_) (fun hc => ?_)
  · replace hf := it_t hf hc
    refine lv_iconst (v := 0) hx hb dX5_isOrder_23 (by decide) ?_
    refine lv_istore_n (lv' := [(1, .int 0), (0, .ref m0)]) hx hb dX5_isOrder_24 rfl hl (by decide) rfl (fun ls hl => ?_)
    refine lv_aload_n hx hb dX5_isOrder_25 rfl (lv_at hl 1 rfl) ?_
    refine r_get C h 0 9 (ci := 5) (N := 11) (Cn := RX5) (T := TX5) rfl rfl (by decide) in_X5_isOrder_X5 lk_X5_isOrder_29 rfl dX5_isOrder_26 ?_
    refine lv_iconst (v := 3) hx hb dX5_isOrder_29 (by decide) ?_
    refine lv_aload_n hx hb dX5_isOrder_30 rfl (lv_at hl 1 rfl) ?_
    refine r_get C h 0 10 (ci := 5) (N := 11) (Cn := RX5) (T := TX5) rfl rfl (by decide) in_X5_isOrder_X5 lk_X5_isOrder_153 rfl dX5_isOrder_31 ?_
    refine lv_imul hx hb dX5_isOrder_34 ?_
    refine lv_iload_n hx hb dX5_isOrder_35 rfl (lv_at hl 0 rfl) ?_
    obtain ⟨j_1, hj_1, hf⟩ := chk_use hf
    refine r_ast C h 7 rfl rfl hj_1 (fun z__ => (wMd cI cZ m0 m1 m2 m3 m4 m5 m6 m7 now thn past kept slt held mpad mpl mat z__ ordn)) (fun _ => rfl) dX5_isOrder_36 (fun ords_2 eords_2 H locs h => ?_)
    replace hf := nm_use hf eords_2
    refine lv_iload_n hx hb dX5_isOrder_37 rfl (lv_at hl 0 rfl) ?_
    refine lv_lookup (off := 115) (tgt := 153) hx hb dX5_isOrder_38 (by decide) rfl (by decide) ?_
    refine lv_iconst (v := 0) hx hb dX5_isOrder_153 (by decide) ?_
    cases hf
    exact r_zret C h hr hlocks rfl dX5_isOrder_154
  · replace hf := it_f hf hc
    refine lv_aload_n hx hb dX5_isOrder_11 rfl (lv_at hl 0 rfl) ?_
    refine r_get C h 0 6 (ci := 5) (N := 11) (Cn := RX5) (T := TX5) rfl rfl (by decide) in_X5_isOrder_X5 lk_X5_isOrder_26 rfl dX5_isOrder_12 ?_
    refine lv_aload_n hx hb dX5_isOrder_15 rfl (lv_at hl 0 rfl) ?_
    refine r_get C h 0 8 (ci := 5) (N := 11) (Cn := RX5) (T := TX5) rfl rfl (by decide) in_X5_isOrder_X5 lk_X5_isOrder_147 rfl dX5_isOrder_16 ?_
    obtain ⟨j_3, hj_3, hf⟩ := chk_use hf
    refine r_ald C h 6 rfl rfl hj_3 dX5_isOrder_19 ?_
    refine lv_goto (tgt := 24) hx hb dX5_isOrder_20 (by decide) ?_
    refine lv_topi (fun x1_4 ex1_4 => ?_)
    replace hf := nm_use hf ex1_4
    refine lv_istore_n (lv' := [(1, .int x1_4), (0, .ref m0)]) hx hb dX5_isOrder_24 rfl hl (by decide) rfl (fun ls hl => ?_)
    refine lv_aload_n hx hb dX5_isOrder_25 rfl (lv_at hl 1 rfl) ?_
    refine r_get C h 0 9 (ci := 5) (N := 11) (Cn := RX5) (T := TX5) rfl rfl (by decide) in_X5_isOrder_X5 lk_X5_isOrder_29 rfl dX5_isOrder_26 ?_
    refine lv_iconst (v := 3) hx hb dX5_isOrder_29 (by decide) ?_
    refine lv_aload_n hx hb dX5_isOrder_30 rfl (lv_at hl 1 rfl) ?_
    refine r_get C h 0 10 (ci := 5) (N := 11) (Cn := RX5) (T := TX5) rfl rfl (by decide) in_X5_isOrder_X5 lk_X5_isOrder_153 rfl dX5_isOrder_31 ?_
    refine lv_imul hx hb dX5_isOrder_34 ?_
    refine lv_iload_n hx hb dX5_isOrder_35 rfl (lv_at hl 0 rfl) ?_
    obtain ⟨j_5, hj_5, hf⟩ := chk_use hf
    refine r_ast C h 7 rfl rfl hj_5 (fun z__ => (wMd cI cZ m0 m1 m2 m3 m4 m5 m6 m7 now thn past kept slt held mpad mpl mat z__ ordn)) (fun _ => rfl) dX5_isOrder_36 (fun ords_6 eords_6 H locs h => ?_)
    replace hf := nm_use hf eords_6
    refine lv_iload_n hx hb dX5_isOrder_37 rfl (lv_at hl 0 rfl) ?_
    by_cases hk0 : x1_4 = 60
    · replace hf := it_t hf hk0
      refine lv_lookup (tgt := 96) hx hb dX5_isOrder_38 (by decide) (by rw [hk0]; (first | done | rfl)) (by decide) ?_
      refine lv_aload_n hx hb dX5_isOrder_96 rfl (lv_at hl 1 rfl) ?_
      refine lv_dup hx hb dX5_isOrder_97 rfl ?_
      refine r_get C h 0 8 (ci := 5) (N := 11) (Cn := RX5) (T := TX5) rfl rfl (by decide) in_X5_isOrder_X5 lk_X5_isOrder_147 rfl dX5_isOrder_98 ?_
      refine lv_iconst (v := 1) hx hb dX5_isOrder_101 (by decide) ?_
      refine lv_iadd hx hb dX5_isOrder_102 ?_
      refine lv_topi (fun mat_7 emat_7 => ?_)
      replace hf := nm_use hf emat_7
      refine r_put C h 0 8 (ci := 5) (N := 11) (Cn := RX5) (T := TX5) (ty0 := tyX5) rfl rfl (by decide) in_X5_isOrder_X5 tyX5_ok nmX5 lk_X5_isOrder_147 rfl rfl rfl (Nat.le_of_ble_eq_true rfl) (wMd cI cZ m0 m1 m2 m3 m4 m5 m6 m7 now thn past kept slt held mpad mpl mat_7 ords_6 ordn) rfl dX5_isOrder_103 (fun H locs h => ?_)
      refine lv_aload_n hx hb dX5_isOrder_106 rfl (lv_at hl 1 rfl) ?_
      refine lv_iconst (v := 1) hx hb dX5_isOrder_107 (by decide) ?_
      obtain ⟨r_8, mat_9, ords_10, hq_11, hf⟩ := ob3_use hf
      refine r_callV C h (cw_X5_isOrder_X5_isNumber_156 C.hts) (rest := []) (ci := 5) (N := 11) (Cn := RX5) (T := TX5) (c_X5_isNumber l G cI cC cZ X m0 m1 m2 m3 m4 m5 m6 m7 now thn past kept slt held mpad mpl mat_7 ords_6 ordn (1 : Int32) r_8 mat_9 ords_10 hq_11) [0, 1, 2, 3, 4, 5, 6, 7] rfl rfl rfl rfl 0 rfl rfl hl.1 rfl (Nat.le_of_ble_eq_true rfl) ⟨Nat.le_of_ble_eq_true rfl, Nat.le_of_ble_eq_true rfl⟩ (wMd cI cZ m0 m1 m2 m3 m4 m5 m6 m7 now thn past kept slt held mpad mpl mat_9 ords_10 ordn) rfl rfl dX5_isOrder_108 (fun H locs h => ?_)
      obtain ⟨hz, hf⟩ := nd_use hf
      cases hf
      exact r_zret C h hr hlocks (by rcases hz with hz | hz <;> rw [hz] <;> rfl) dX5_isOrder_111
    · replace hf := it_f hf hk0
      by_cases hk1 : x1_4 = 62
      · replace hf := it_t hf hk1
        refine lv_lookup (tgt := 96) hx hb dX5_isOrder_38 (by decide) (by rw [hk1]; (first | done | rfl)) (by decide) ?_
        refine lv_aload_n hx hb dX5_isOrder_96 rfl (lv_at hl 1 rfl) ?_
        refine lv_dup hx hb dX5_isOrder_97 rfl ?_
        refine r_get C h 0 8 (ci := 5) (N := 11) (Cn := RX5) (T := TX5) rfl rfl (by decide) in_X5_isOrder_X5 lk_X5_isOrder_147 rfl dX5_isOrder_98 ?_
        refine lv_iconst (v := 1) hx hb dX5_isOrder_101 (by decide) ?_
        refine lv_iadd hx hb dX5_isOrder_102 ?_
        refine lv_topi (fun mat_12 emat_12 => ?_)
        replace hf := nm_use hf emat_12
        refine r_put C h 0 8 (ci := 5) (N := 11) (Cn := RX5) (T := TX5) (ty0 := tyX5) rfl rfl (by decide) in_X5_isOrder_X5 tyX5_ok nmX5 lk_X5_isOrder_147 rfl rfl rfl (Nat.le_of_ble_eq_true rfl) (wMd cI cZ m0 m1 m2 m3 m4 m5 m6 m7 now thn past kept slt held mpad mpl mat_12 ords_6 ordn) rfl dX5_isOrder_103 (fun H locs h => ?_)
        refine lv_aload_n hx hb dX5_isOrder_106 rfl (lv_at hl 1 rfl) ?_
        refine lv_iconst (v := 1) hx hb dX5_isOrder_107 (by decide) ?_
        obtain ⟨r_13, mat_14, ords_15, hq_16, hf⟩ := ob3_use hf
        refine r_callV C h (cw_X5_isOrder_X5_isNumber_156 C.hts) (rest := []) (ci := 5) (N := 11) (Cn := RX5) (T := TX5) (c_X5_isNumber l G cI cC cZ X m0 m1 m2 m3 m4 m5 m6 m7 now thn past kept slt held mpad mpl mat_12 ords_6 ordn (1 : Int32) r_13 mat_14 ords_15 hq_16) [0, 1, 2, 3, 4, 5, 6, 7] rfl rfl rfl rfl 0 rfl rfl hl.1 rfl (Nat.le_of_ble_eq_true rfl) ⟨Nat.le_of_ble_eq_true rfl, Nat.le_of_ble_eq_true rfl⟩ (wMd cI cZ m0 m1 m2 m3 m4 m5 m6 m7 now thn past kept slt held mpad mpl mat_14 ords_15 ordn) rfl rfl dX5_isOrder_108 (fun H locs h => ?_)
        obtain ⟨hz, hf⟩ := nd_use hf
        cases hf
        exact r_zret C h hr hlocks (by rcases hz with hz | hz <;> rw [hz] <;> rfl) dX5_isOrder_111
      · replace hf := it_f hf hk1
        by_cases hk2 : x1_4 = 105
        · replace hf := it_t hf hk2
          refine lv_lookup (tgt := 96) hx hb dX5_isOrder_38 (by decide) (by rw [hk2]; (first | done | rfl)) (by decide) ?_
          refine lv_aload_n hx hb dX5_isOrder_96 rfl (lv_at hl 1 rfl) ?_
          refine lv_dup hx hb dX5_isOrder_97 rfl ?_
          refine r_get C h 0 8 (ci := 5) (N := 11) (Cn := RX5) (T := TX5) rfl rfl (by decide) in_X5_isOrder_X5 lk_X5_isOrder_147 rfl dX5_isOrder_98 ?_
          refine lv_iconst (v := 1) hx hb dX5_isOrder_101 (by decide) ?_
          refine lv_iadd hx hb dX5_isOrder_102 ?_
          refine lv_topi (fun mat_17 emat_17 => ?_)
          replace hf := nm_use hf emat_17
          refine r_put C h 0 8 (ci := 5) (N := 11) (Cn := RX5) (T := TX5) (ty0 := tyX5) rfl rfl (by decide) in_X5_isOrder_X5 tyX5_ok nmX5 lk_X5_isOrder_147 rfl rfl rfl (Nat.le_of_ble_eq_true rfl) (wMd cI cZ m0 m1 m2 m3 m4 m5 m6 m7 now thn past kept slt held mpad mpl mat_17 ords_6 ordn) rfl dX5_isOrder_103 (fun H locs h => ?_)
          refine lv_aload_n hx hb dX5_isOrder_106 rfl (lv_at hl 1 rfl) ?_
          refine lv_iconst (v := 1) hx hb dX5_isOrder_107 (by decide) ?_
          obtain ⟨r_18, mat_19, ords_20, hq_21, hf⟩ := ob3_use hf
          refine r_callV C h (cw_X5_isOrder_X5_isNumber_156 C.hts) (rest := []) (ci := 5) (N := 11) (Cn := RX5) (T := TX5) (c_X5_isNumber l G cI cC cZ X m0 m1 m2 m3 m4 m5 m6 m7 now thn past kept slt held mpad mpl mat_17 ords_6 ordn (1 : Int32) r_18 mat_19 ords_20 hq_21) [0, 1, 2, 3, 4, 5, 6, 7] rfl rfl rfl rfl 0 rfl rfl hl.1 rfl (Nat.le_of_ble_eq_true rfl) ⟨Nat.le_of_ble_eq_true rfl, Nat.le_of_ble_eq_true rfl⟩ (wMd cI cZ m0 m1 m2 m3 m4 m5 m6 m7 now thn past kept slt held mpad mpl mat_19 ords_20 ordn) rfl rfl dX5_isOrder_108 (fun H locs h => ?_)
          obtain ⟨hz, hf⟩ := nd_use hf
          cases hf
          exact r_zret C h hr hlocks (by rcases hz with hz | hz <;> rw [hz] <;> rfl) dX5_isOrder_111
        · replace hf := it_f hf hk2
          by_cases hk3 : x1_4 = 111
          · replace hf := it_t hf hk3
            refine lv_lookup (tgt := 96) hx hb dX5_isOrder_38 (by decide) (by rw [hk3]; (first | done | rfl)) (by decide) ?_
            refine lv_aload_n hx hb dX5_isOrder_96 rfl (lv_at hl 1 rfl) ?_
            refine lv_dup hx hb dX5_isOrder_97 rfl ?_
            refine r_get C h 0 8 (ci := 5) (N := 11) (Cn := RX5) (T := TX5) rfl rfl (by decide) in_X5_isOrder_X5 lk_X5_isOrder_147 rfl dX5_isOrder_98 ?_
            refine lv_iconst (v := 1) hx hb dX5_isOrder_101 (by decide) ?_
            refine lv_iadd hx hb dX5_isOrder_102 ?_
            refine lv_topi (fun mat_22 emat_22 => ?_)
            replace hf := nm_use hf emat_22
            refine r_put C h 0 8 (ci := 5) (N := 11) (Cn := RX5) (T := TX5) (ty0 := tyX5) rfl rfl (by decide) in_X5_isOrder_X5 tyX5_ok nmX5 lk_X5_isOrder_147 rfl rfl rfl (Nat.le_of_ble_eq_true rfl) (wMd cI cZ m0 m1 m2 m3 m4 m5 m6 m7 now thn past kept slt held mpad mpl mat_22 ords_6 ordn) rfl dX5_isOrder_103 (fun H locs h => ?_)
            refine lv_aload_n hx hb dX5_isOrder_106 rfl (lv_at hl 1 rfl) ?_
            refine lv_iconst (v := 1) hx hb dX5_isOrder_107 (by decide) ?_
            obtain ⟨r_23, mat_24, ords_25, hq_26, hf⟩ := ob3_use hf
            refine r_callV C h (cw_X5_isOrder_X5_isNumber_156 C.hts) (rest := []) (ci := 5) (N := 11) (Cn := RX5) (T := TX5) (c_X5_isNumber l G cI cC cZ X m0 m1 m2 m3 m4 m5 m6 m7 now thn past kept slt held mpad mpl mat_22 ords_6 ordn (1 : Int32) r_23 mat_24 ords_25 hq_26) [0, 1, 2, 3, 4, 5, 6, 7] rfl rfl rfl rfl 0 rfl rfl hl.1 rfl (Nat.le_of_ble_eq_true rfl) ⟨Nat.le_of_ble_eq_true rfl, Nat.le_of_ble_eq_true rfl⟩ (wMd cI cZ m0 m1 m2 m3 m4 m5 m6 m7 now thn past kept slt held mpad mpl mat_24 ords_25 ordn) rfl rfl dX5_isOrder_108 (fun H locs h => ?_)
            obtain ⟨hz, hf⟩ := nd_use hf
            cases hf
            exact r_zret C h hr hlocks (by rcases hz with hz | hz <;> rw [hz] <;> rfl) dX5_isOrder_111
          · replace hf := it_f hf hk3
            by_cases hk4 : x1_4 = 116
            · replace hf := it_t hf hk4
              refine lv_lookup (tgt := 96) hx hb dX5_isOrder_38 (by decide) (by rw [hk4]; (first | done | rfl)) (by decide) ?_
              refine lv_aload_n hx hb dX5_isOrder_96 rfl (lv_at hl 1 rfl) ?_
              refine lv_dup hx hb dX5_isOrder_97 rfl ?_
              refine r_get C h 0 8 (ci := 5) (N := 11) (Cn := RX5) (T := TX5) rfl rfl (by decide) in_X5_isOrder_X5 lk_X5_isOrder_147 rfl dX5_isOrder_98 ?_
              refine lv_iconst (v := 1) hx hb dX5_isOrder_101 (by decide) ?_
              refine lv_iadd hx hb dX5_isOrder_102 ?_
              refine lv_topi (fun mat_27 emat_27 => ?_)
              replace hf := nm_use hf emat_27
              refine r_put C h 0 8 (ci := 5) (N := 11) (Cn := RX5) (T := TX5) (ty0 := tyX5) rfl rfl (by decide) in_X5_isOrder_X5 tyX5_ok nmX5 lk_X5_isOrder_147 rfl rfl rfl (Nat.le_of_ble_eq_true rfl) (wMd cI cZ m0 m1 m2 m3 m4 m5 m6 m7 now thn past kept slt held mpad mpl mat_27 ords_6 ordn) rfl dX5_isOrder_103 (fun H locs h => ?_)
              refine lv_aload_n hx hb dX5_isOrder_106 rfl (lv_at hl 1 rfl) ?_
              refine lv_iconst (v := 1) hx hb dX5_isOrder_107 (by decide) ?_
              obtain ⟨r_28, mat_29, ords_30, hq_31, hf⟩ := ob3_use hf
              refine r_callV C h (cw_X5_isOrder_X5_isNumber_156 C.hts) (rest := []) (ci := 5) (N := 11) (Cn := RX5) (T := TX5) (c_X5_isNumber l G cI cC cZ X m0 m1 m2 m3 m4 m5 m6 m7 now thn past kept slt held mpad mpl mat_27 ords_6 ordn (1 : Int32) r_28 mat_29 ords_30 hq_31) [0, 1, 2, 3, 4, 5, 6, 7] rfl rfl rfl rfl 0 rfl rfl hl.1 rfl (Nat.le_of_ble_eq_true rfl) ⟨Nat.le_of_ble_eq_true rfl, Nat.le_of_ble_eq_true rfl⟩ (wMd cI cZ m0 m1 m2 m3 m4 m5 m6 m7 now thn past kept slt held mpad mpl mat_29 ords_30 ordn) rfl rfl dX5_isOrder_108 (fun H locs h => ?_)
              obtain ⟨hz, hf⟩ := nd_use hf
              cases hf
              exact r_zret C h hr hlocks (by rcases hz with hz | hz <;> rw [hz] <;> rfl) dX5_isOrder_111
            · replace hf := it_f hf hk4
              by_cases hk5 : x1_4 = 118
              · replace hf := it_t hf hk5
                refine lv_lookup (tgt := 112) hx hb dX5_isOrder_38 (by decide) (by rw [hk5]; (first | done | rfl)) (by decide) ?_
                refine lv_aload_n hx hb dX5_isOrder_112 rfl (lv_at hl 1 rfl) ?_
                refine lv_dup hx hb dX5_isOrder_113 rfl ?_
                refine r_get C h 0 8 (ci := 5) (N := 11) (Cn := RX5) (T := TX5) rfl rfl (by decide) in_X5_isOrder_X5 lk_X5_isOrder_147 rfl dX5_isOrder_114 ?_
                refine lv_iconst (v := 1) hx hb dX5_isOrder_117 (by decide) ?_
                refine lv_iadd hx hb dX5_isOrder_118 ?_
                refine lv_topi (fun mat_32 emat_32 => ?_)
                replace hf := nm_use hf emat_32
                refine r_put C h 0 8 (ci := 5) (N := 11) (Cn := RX5) (T := TX5) (ty0 := tyX5) rfl rfl (by decide) in_X5_isOrder_X5 tyX5_ok nmX5 lk_X5_isOrder_147 rfl rfl rfl (Nat.le_of_ble_eq_true rfl) (wMd cI cZ m0 m1 m2 m3 m4 m5 m6 m7 now thn past kept slt held mpad mpl mat_32 ords_6 ordn) rfl dX5_isOrder_119 (fun H locs h => ?_)
                refine lv_aload_n hx hb dX5_isOrder_122 rfl (lv_at hl 1 rfl) ?_
                refine lv_iconst (v := 1) hx hb dX5_isOrder_123 (by decide) ?_
                obtain ⟨r_33, mat_34, ords_35, hq_36, hf⟩ := ob3_use hf
                refine r_callV C h (cw_X5_isOrder_X5_isNumber_156 C.hts) (rest := []) (ci := 5) (N := 11) (Cn := RX5) (T := TX5) (c_X5_isNumber l G cI cC cZ X m0 m1 m2 m3 m4 m5 m6 m7 now thn past kept slt held mpad mpl mat_32 ords_6 ordn (1 : Int32) r_33 mat_34 ords_35 hq_36) [0, 1, 2, 3, 4, 5, 6, 7] rfl rfl rfl rfl 0 rfl rfl hl.1 rfl (Nat.le_of_ble_eq_true rfl) ⟨Nat.le_of_ble_eq_true rfl, Nat.le_of_ble_eq_true rfl⟩ (wMd cI cZ m0 m1 m2 m3 m4 m5 m6 m7 now thn past kept slt held mpad mpl mat_34 ords_35 ordn) rfl rfl dX5_isOrder_124 (fun H locs h => ?_)
                refine lv_if_eq (tgt := 151) hx hb dX5_isOrder_127 (by decide) (fun hc => ?_) (fun hc => ?_)
                · replace hf := it_t hf hc
                  refine lv_iconst (v := 0) hx hb dX5_isOrder_151 (by decide) ?_
                  cases hf
                  exact r_zret C h hr hlocks rfl dX5_isOrder_152
                · replace hf := it_f hf hc
                  refine lv_aload_n hx hb dX5_isOrder_130 rfl (lv_at hl 1 rfl) ?_
                  refine lv_bipush (v := 61) hx hb dX5_isOrder_131 (by decide) ?_
                  obtain ⟨r_37, mat_38, hq_39, hf⟩ := ob2_use hf
                  refine r_callV C h (cw_X5_isOrder_X5_isSign_159 C.hts) (rest := []) (ci := 5) (N := 11) (Cn := RX5) (T := TX5) (c_X5_isSign l G cI cC cZ X m0 m1 m2 m3 m4 m5 m6 m7 now thn past kept slt held mpad mpl mat_34 ords_35 ordn (61 : Int32) r_37 mat_38 hq_39) [0, 1, 2, 3, 4, 5, 6, 7] rfl rfl rfl rfl 0 rfl rfl hl.1 rfl (Nat.le_of_ble_eq_true rfl) ⟨Nat.le_of_ble_eq_true rfl, Nat.le_of_ble_eq_true rfl⟩ (wMd cI cZ m0 m1 m2 m3 m4 m5 m6 m7 now thn past kept slt held mpad mpl mat_38 ords_35 ordn) rfl rfl dX5_isOrder_133 (fun H locs h => ?_)
                  refine lv_if_eq (tgt := 151) hx hb dX5_isOrder_136 (by decide) (fun hc => ?_) (fun hc => ?_)
                  · replace hf := it_t hf hc
                    refine lv_iconst (v := 0) hx hb dX5_isOrder_151 (by decide) ?_
                    cases hf
                    exact r_zret C h hr hlocks rfl dX5_isOrder_152
                  · replace hf := it_f hf hc
                    refine lv_aload_n hx hb dX5_isOrder_139 rfl (lv_at hl 1 rfl) ?_
                    refine lv_iconst (v := 2) hx hb dX5_isOrder_140 (by decide) ?_
                    obtain ⟨r_40, mat_41, ords_42, hq_43, hf⟩ := ob3_use hf
                    refine r_callV C h (cw_X5_isOrder_X5_isNumber_156 C.hts) (rest := []) (ci := 5) (N := 11) (Cn := RX5) (T := TX5) (c_X5_isNumber l G cI cC cZ X m0 m1 m2 m3 m4 m5 m6 m7 now thn past kept slt held mpad mpl mat_38 ords_35 ordn (2 : Int32) r_40 mat_41 ords_42 hq_43) [0, 1, 2, 3, 4, 5, 6, 7] rfl rfl rfl rfl 0 rfl rfl hl.1 rfl (Nat.le_of_ble_eq_true rfl) ⟨Nat.le_of_ble_eq_true rfl, Nat.le_of_ble_eq_true rfl⟩ (wMd cI cZ m0 m1 m2 m3 m4 m5 m6 m7 now thn past kept slt held mpad mpl mat_41 ords_42 ordn) rfl rfl dX5_isOrder_141 (fun H locs h => ?_)
                    refine lv_if_eq (tgt := 151) hx hb dX5_isOrder_144 (by decide) (fun hc => ?_) (fun hc => ?_)
                    · replace hf := it_t hf hc
                      refine lv_iconst (v := 0) hx hb dX5_isOrder_151 (by decide) ?_
                      cases hf
                      exact r_zret C h hr hlocks rfl dX5_isOrder_152
                    · replace hf := it_f hf hc
                      refine lv_iconst (v := 1) hx hb dX5_isOrder_147 (by decide) ?_
                      refine lv_goto (tgt := 152) hx hb dX5_isOrder_148 (by decide) ?_
                      cases hf
                      exact r_zret C h hr hlocks rfl dX5_isOrder_152
              · replace hf := it_f hf hk5
                refine lv_lookup (off := 115) (tgt := 153) hx hb dX5_isOrder_38 (by decide) (sw_df_X5_isOrder_38 x1_4 hk0 hk1 hk2 hk3 hk4 hk5) (by decide) ?_
                refine lv_iconst (v := 0) hx hb dX5_isOrder_153 (by decide) ?_
                cases hf
                exact r_zret C h hr hlocks rfl dX5_isOrder_154
def rm_X5_isText : Room := { frames := 4, cells := 0, slots := 0, locals := 87 }
set_option maxRecDepth 20000 in
theorem lk_X5_isText_147 : Cond.fieldLink RX5 147 "LineDoublerModel" "at" "I" ∈ wsX5_isText := List.mem_of_getElem? (i := 1) (by decide +kernel)
set_option maxRecDepth 20000 in
theorem lk_X5_isText_153 : Cond.fieldLink RX5 153 "LineDoublerModel" "ordered" "I" ∈ wsX5_isText := List.mem_of_getElem? (i := 2) (by decide +kernel)
set_option maxRecDepth 20000 in
theorem lk_X5_isText_112 : Cond.fieldLink RX5 112 "LineDoublerModel" "padded" "I" ∈ wsX5_isText := List.mem_of_getElem? (i := 3) (by decide +kernel)
set_option maxRecDepth 20000 in
theorem in_X5_isText_X5 : ∀ x ∈ wsX50, x ∈ wsX5_isText := mem_r _ [26, 27, 28, 29, 30, 31, 32, 33, 34, 35, 36] (by decide +kernel)
set_option maxRecDepth 20000 in
theorem cw_X5_isText_X5_isOrder_162 {s : State} {args : Array Value} (hts : ∀ w ∈ wsX5_isText, w.before args s = true) : CallW rm_X5_isText s args RX5 RX5 162 yX5_isOrder cX5_isOrder 2 (some .boolean) wsX5_isOrder rm_X5_isOrder 0 0 0 :=
  cwV 0 hts gX5_isText_X5_isOrder rfl rfl rfl (by decide +kernel) ⟨Nat.le_of_ble_eq_true rfl, Nat.le_of_ble_eq_true rfl⟩
set_option maxRecDepth 20000 in
theorem cw_X5_isText_X5_isSign_159 {s : State} {args : Array Value} (hts : ∀ w ∈ wsX5_isText, w.before args s = true) : CallW rm_X5_isText s args RX5 RX5 159 yX5_isSign cX5_isSign 3 (some .boolean) wsX5_isSign rm_X5_isSign 0 0 1 :=
  cwV 1 hts gX5_isText_X5_isSign rfl rfl rfl (by decide +kernel) ⟨Nat.le_of_ble_eq_true rfl, Nat.le_of_ble_eq_true rfl⟩
set_option maxHeartbeats 4000000 in
set_option maxRecDepth 100000 in
theorem c_X5_isText (l : Launch) (G : va_G) (cI cC cZ : ClassId) (X : List (ClassId × FieldType)) (m0 m1 m2 m3 m4 m5 m6 m7 : Nat) (now : Nat → Int32) (thn : Nat → Int32) (past : Nat → Int32) (kept : Int32) (slt : Nat → Int32) (held : Nat → Int32) (mpad : Nat → Int32) (mpl : Int32) (mat : Int32) (ords : Nat → Int32) (ordn : Int32) (rv : Int32) (mat' : Int32) (ords' : Nat → Int32) (ordn' : Int32) (hf : fX5_isText mpad mpl mat ords ordn = some (rv, mat', ords', ordn')) : CT l yX5_isText wsX5_isText rm_X5_isText G (TY cI cC cZ X) [.ref m0] (wMd cI cZ m0 m1 m2 m3 m4 m5 m6 m7 now thn past kept slt held mpad mpl mat ords ordn) (some (.int rv)) (wMd cI cZ m0 m1 m2 m3 m4 m5 m6 m7 now thn past kept slt held mpad mpl mat' ords' ordn') := by
  refine CT.of (cc := cX5_isText) (maxL := 2) (ret := (some .boolean)) RX5 rfl (by decide) rfl (Nat.le_of_ble_eq_true rfl) ?_
  intro p e s m args below meth c A ls C hr hlocks hnm h hl
  have hx := C.hx
  have hb := C.hb
  have hl : lv_has ls 2 [(0, .ref m0)] := hl
  have cut_12 : ∀ (n : Nat) (mat : Int32) (ords : Nat → Int32) (ordn : Int32) (x1 : Int32) (H : Heap) (locs : List Loc) (ls : Array Slot), Hx s G A (wMd cI cZ m0 m1 m2 m3 m4 m5 m6 m7 now thn past kept slt held mpad mpl mat ords ordn) H locs → lv_has ls 2 [(0, .ref m0), (1, .int x1)] → fX5_isText_12 n mpad mpl mat ords ordn x1 = some (rv, mat', ords', ordn') → W p l e rm_X5_isText s m args below meth c H locs 0 0 (MQ below (Qx G (some (.int rv)) (wMd cI cZ m0 m1 m2 m3 m4 m5 m6 m7 now thn past kept slt held mpad mpl mat' ords' ordn') A) args s 0 0 A) (F0 m 12 ls []) := by
    intro n
    induction n with
    | zero =>
      intro mat ords ordn x1 H locs ls h hl hf
      exact (nn_some _ hf).elim
    | succ n ih =>
      intro mat ords ordn x1 H locs ls h hl hf
      have hf : fX5_isText_12_b (fX5_isText_12 n) mpad mpl mat ords ordn x1 = some (rv, mat', ords', ordn') := hf
      unfold fX5_isText_12_b at hf
      refine lv_iload_n hx hb dX5_isText_12 rfl (lv_at hl 1 rfl) ?_
      refine lv_if_eq (tgt := 45) hx hb dX5_isText_13 (by decide) (fun hc => ?_) (fun hc => ?_)
      · replace hf := it_t hf hc
        refine lv_aload_n hx hb dX5_isText_45 rfl (lv_at hl 0 rfl) ?_
        refine r_get C h 0 8 (ci := 5) (N := 11) (Cn := RX5) (T := TX5) rfl rfl (by decide) in_X5_isText_X5 lk_X5_isText_147 rfl dX5_isText_46 ?_
        refine lv_aload_n hx hb dX5_isText_49 rfl (lv_at hl 0 rfl) ?_
        refine r_get C h 0 7 (ci := 5) (N := 11) (Cn := RX5) (T := TX5) rfl rfl (by decide) in_X5_isText_X5 lk_X5_isText_112 rfl dX5_isText_50 ?_
        refine lv_icmp_ne (tgt := 60) hx hb dX5_isText_53 (by decide) (fun hc => ?_) (fun hc => ?_)
        · replace hf := it_f hf hc
          refine lv_iconst (v := 0) hx hb dX5_isText_60 (by decide) ?_
          cases hf
          exact r_zret C h hr hlocks rfl dX5_isText_61
        · replace hf := it_t hf hc
          refine lv_iconst (v := 1) hx hb dX5_isText_56 (by decide) ?_
          refine lv_goto (tgt := 61) hx hb dX5_isText_57 (by decide) ?_
          cases hf
          exact r_zret C h hr hlocks rfl dX5_isText_61
      · replace hf := it_f hf hc
        refine lv_aload_n hx hb dX5_isText_16 rfl (lv_at hl 0 rfl) ?_
        obtain ⟨r_1, mat_2, ords_3, hq_4, hf⟩ := ob3_use hf
        refine r_callV C h (cw_X5_isText_X5_isOrder_162 C.hts) (rest := []) (ci := 5) (N := 11) (Cn := RX5) (T := TX5) (c_X5_isOrder l G cI cC cZ X m0 m1 m2 m3 m4 m5 m6 m7 now thn past kept slt held mpad mpl mat ords ordn r_1 mat_2 ords_3 hq_4) [0, 1, 2, 3, 4, 5, 6, 7] rfl rfl rfl rfl 0 rfl rfl hl.1 rfl (Nat.le_of_ble_eq_true rfl) ⟨Nat.le_of_ble_eq_true rfl, Nat.le_of_ble_eq_true rfl⟩ (wMd cI cZ m0 m1 m2 m3 m4 m5 m6 m7 now thn past kept slt held mpad mpl mat_2 ords_3 ordn) rfl rfl dX5_isText_17 (fun H locs h => ?_)
        refine lv_if_ne (tgt := 25) hx hb dX5_isText_20 (by decide) (fun hc => ?_) (fun hc => ?_)
        · replace hf := it_f hf hc
          refine lv_aload_n hx hb dX5_isText_25 rfl (lv_at hl 0 rfl) ?_
          refine lv_dup hx hb dX5_isText_26 rfl ?_
          refine r_get C h 0 10 (ci := 5) (N := 11) (Cn := RX5) (T := TX5) rfl rfl (by decide) in_X5_isText_X5 lk_X5_isText_153 rfl dX5_isText_27 ?_
          refine lv_iconst (v := 1) hx hb dX5_isText_30 (by decide) ?_
          refine lv_iadd hx hb dX5_isText_31 ?_
          refine lv_topi (fun ordn_5 eordn_5 => ?_)
          replace hf := nm_use hf eordn_5
          refine r_put C h 0 10 (ci := 5) (N := 11) (Cn := RX5) (T := TX5) (ty0 := tyX5) rfl rfl (by decide) in_X5_isText_X5 tyX5_ok nmX5 lk_X5_isText_153 rfl rfl rfl (Nat.le_of_ble_eq_true rfl) (wMd cI cZ m0 m1 m2 m3 m4 m5 m6 m7 now thn past kept slt held mpad mpl mat_2 ords_3 ordn_5) rfl dX5_isText_32 (fun H locs h => ?_)
          refine lv_aload_n hx hb dX5_isText_35 rfl (lv_at hl 0 rfl) ?_
          refine lv_bipush (v := 59) hx hb dX5_isText_36 (by decide) ?_
          obtain ⟨r_6, mat_7, hq_8, hf⟩ := ob2_use hf
          refine r_callV C h (cw_X5_isText_X5_isSign_159 C.hts) (rest := []) (ci := 5) (N := 11) (Cn := RX5) (T := TX5) (c_X5_isSign l G cI cC cZ X m0 m1 m2 m3 m4 m5 m6 m7 now thn past kept slt held mpad mpl mat_2 ords_3 ordn_5 (59 : Int32) r_6 mat_7 hq_8) [0, 1, 2, 3, 4, 5, 6, 7] rfl rfl rfl rfl 0 rfl rfl hl.1 rfl (Nat.le_of_ble_eq_true rfl) ⟨Nat.le_of_ble_eq_true rfl, Nat.le_of_ble_eq_true rfl⟩ (wMd cI cZ m0 m1 m2 m3 m4 m5 m6 m7 now thn past kept slt held mpad mpl mat_7 ords_3 ordn_5) rfl rfl dX5_isText_38 (fun H locs h => ?_)
          refine lv_istore_n (lv' := [(1, .int r_6), (0, .ref m0)]) hx hb dX5_isText_41 rfl hl (by decide) rfl (fun ls hl => ?_)
          refine lv_goto (tgt := 12) hx hb dX5_isText_42 (by decide) ?_
          exact ih mat_7 ords_3 ordn_5 r_6 _ _ _ h (lv_sub hl [1, 0] rfl) hf
        · replace hf := it_t hf hc
          refine lv_iconst (v := 0) hx hb dX5_isText_23 (by decide) ?_
          cases hf
          exact r_zret C h hr hlocks rfl dX5_isText_24
  unfold fX5_isText at hf
  refine lv_aload_n hx hb dX5_isText_0 rfl (lv_at hl 0 rfl) ?_
  refine lv_iconst (v := 0) hx hb dX5_isText_1 (by decide) ?_
  refine r_put C h 0 8 (ci := 5) (N := 11) (Cn := RX5) (T := TX5) (ty0 := tyX5) rfl rfl (by decide) in_X5_isText_X5 tyX5_ok nmX5 lk_X5_isText_147 rfl rfl rfl (Nat.le_of_ble_eq_true rfl) (wMd cI cZ m0 m1 m2 m3 m4 m5 m6 m7 now thn past kept slt held mpad mpl 0 ords ordn) rfl dX5_isText_2 (fun H locs h => ?_)
  refine lv_aload_n hx hb dX5_isText_5 rfl (lv_at hl 0 rfl) ?_
  refine lv_iconst (v := 0) hx hb dX5_isText_6 (by decide) ?_
  refine r_put C h 0 10 (ci := 5) (N := 11) (Cn := RX5) (T := TX5) (ty0 := tyX5) rfl rfl (by decide) in_X5_isText_X5 tyX5_ok nmX5 lk_X5_isText_153 rfl rfl rfl (Nat.le_of_ble_eq_true rfl) (wMd cI cZ m0 m1 m2 m3 m4 m5 m6 m7 now thn past kept slt held mpad mpl 0 ords 0) rfl dX5_isText_7 (fun H locs h => ?_)
  refine lv_iconst (v := 1) hx hb dX5_isText_10 (by decide) ?_
  refine lv_istore_n (lv' := [(1, .int 1), (0, .ref m0)]) hx hb dX5_isText_11 rfl hl (by decide) rfl (fun ls hl => ?_)
  exact cut_12 KF 0 ords 0 1 _ _ _ h (lv_sub hl [1, 0] rfl) hf
def rm_X5_fault : Room := { frames := 5, cells := 0, slots := 0, locals := 108 }
set_option maxRecDepth 20000 in
theorem lk_X5_fault_147 : Cond.fieldLink RX5 147 "LineDoublerModel" "at" "I" ∈ wsX5_fault := List.mem_of_getElem? (i := 1) (by decide +kernel)
set_option maxRecDepth 20000 in
theorem in_X5_fault_X5 : ∀ x ∈ wsX50, x ∈ wsX5_fault := mem_r _ [30, 31, 32, 33, 34, 35, 36, 37, 38, 39, 40] (by decide +kernel)
set_option maxRecDepth 20000 in
theorem cw_X5_fault_X5_isText_166 {s : State} {args : Array Value} (hts : ∀ w ∈ wsX5_fault, w.before args s = true) : CallW rm_X5_fault s args RX5 RX5 166 yX5_isText cX5_isText 2 (some .boolean) wsX5_isText rm_X5_isText 0 0 0 :=
  cwV 0 hts gX5_fault_X5_isText rfl rfl rfl (by decide +kernel) ⟨Nat.le_of_ble_eq_true rfl, Nat.le_of_ble_eq_true rfl⟩
set_option maxHeartbeats 4000000 in
set_option maxRecDepth 100000 in
theorem c_X5_fault (l : Launch) (G : va_G) (cI cC cZ : ClassId) (X : List (ClassId × FieldType)) (m0 m1 m2 m3 m4 m5 m6 m7 : Nat) (now : Nat → Int32) (thn : Nat → Int32) (past : Nat → Int32) (kept : Int32) (slt : Nat → Int32) (held : Nat → Int32) (mpad : Nat → Int32) (mpl : Int32) (mat : Int32) (ords : Nat → Int32) (ordn : Int32) (rv : Int32) (mat' : Int32) (ords' : Nat → Int32) (ordn' : Int32) (hf : fX5_fault mpad mpl mat ords ordn = some (rv, mat', ords', ordn')) : CT l yX5_fault wsX5_fault rm_X5_fault G (TY cI cC cZ X) [.ref m0] (wMd cI cZ m0 m1 m2 m3 m4 m5 m6 m7 now thn past kept slt held mpad mpl mat ords ordn) (some (.int rv)) (wMd cI cZ m0 m1 m2 m3 m4 m5 m6 m7 now thn past kept slt held mpad mpl mat' ords' ordn') := by
  refine CT.of (cc := cX5_fault) (maxL := 1) (ret := (some .int)) RX5 rfl (by decide) rfl (Nat.le_of_ble_eq_true rfl) ?_
  intro p e s m args below meth c A ls C hr hlocks hnm h hl
  have hx := C.hx
  have hb := C.hb
  have hl : lv_has ls 1 [(0, .ref m0)] := hl
  unfold fX5_fault at hf
  refine lv_aload_n hx hb dX5_fault_0 rfl (lv_at hl 0 rfl) ?_
  obtain ⟨r_1, mat_2, ords_3, ordn_4, hq_5, hf⟩ := ob4_use hf
  refine r_callV C h (cw_X5_fault_X5_isText_166 C.hts) (rest := []) (ci := 5) (N := 11) (Cn := RX5) (T := TX5) (c_X5_isText l G cI cC cZ X m0 m1 m2 m3 m4 m5 m6 m7 now thn past kept slt held mpad mpl mat ords ordn r_1 mat_2 ords_3 ordn_4 hq_5) [0, 1, 2, 3, 4, 5, 6, 7] rfl rfl rfl rfl 0 rfl rfl hl.1 rfl (Nat.le_of_ble_eq_true rfl) ⟨Nat.le_of_ble_eq_true rfl, Nat.le_of_ble_eq_true rfl⟩ (wMd cI cZ m0 m1 m2 m3 m4 m5 m6 m7 now thn past kept slt held mpad mpl mat_2 ords_3 ordn_4) rfl rfl dX5_fault_1 (fun H locs h => ?_)
  refine lv_if_eq (tgt := 12) hx hb dX5_fault_4 (by decide) (fun hc => ?_) (fun hc => ?_)
  · replace hf := it_t hf hc
    refine lv_aload_n hx hb dX5_fault_12 rfl (lv_at hl 0 rfl) ?_
    refine r_get C h 0 8 (ci := 5) (N := 11) (Cn := RX5) (T := TX5) rfl rfl (by decide) in_X5_fault_X5 lk_X5_fault_147 rfl dX5_fault_13 ?_
    cases hf
    exact r_iret C h hr hlocks dX5_fault_16
  · replace hf := it_f hf hc
    refine lv_bipush (v := (-6)) hx hb dX5_fault_7 (by decide) ?_
    refine lv_goto (tgt := 16) hx hb dX5_fault_9 (by decide) ?_
    cases hf
    exact r_iret C h hr hlocks dX5_fault_16
def rm_X5_mayDo : Room := { frames := 2, cells := 0, slots := 0, locals := 43 }
set_option maxRecDepth 20000 in
theorem cw_X5_mayDo_X5_isFor_87 {s : State} {args : Array Value} (hts : ∀ w ∈ wsX5_mayDo, w.before args s = true) : CallB rm_X5_mayDo s args RX5 87 yX5_isFor cX5_isFor 2 (some .boolean) wsX5_isFor rm_X5_isFor 0 0 2 ∧ (Cond.static yX5_isFor).before args s = true :=
  va_cwS 2 hts gX5_mayDo_X5_isFor rfl rfl rfl (by decide +kernel) ⟨Nat.le_of_ble_eq_true rfl, Nat.le_of_ble_eq_true rfl⟩
set_option maxRecDepth 20000 in
theorem cw_X5_mayDo_X5_mayPass_105 {s : State} {args : Array Value} (hts : ∀ w ∈ wsX5_mayDo, w.before args s = true) : CallW rm_X5_mayDo s args RX5 RX5 105 yX5_mayPass cX5_mayPass 2 (some .int) wsX5_mayPass rm_X5_mayPass 0 0 1 :=
  cwV 1 hts gX5_mayDo_X5_mayPass rfl rfl rfl (by decide +kernel) ⟨Nat.le_of_ble_eq_true rfl, Nat.le_of_ble_eq_true rfl⟩
set_option maxRecDepth 20000 in
theorem cw_X5_mayDo_X5_mayTell_95 {s : State} {args : Array Value} (hts : ∀ w ∈ wsX5_mayDo, w.before args s = true) : CallB rm_X5_mayDo s args RX5 95 yX5_mayTell cX5_mayTell 2 (some .int) wsX5_mayTell rm_X5_mayTell 0 0 2 ∧ (Cond.static yX5_mayTell).before args s = true :=
  va_cwS 2 hts gX5_mayDo_X5_mayTell rfl rfl rfl (by decide +kernel) ⟨Nat.le_of_ble_eq_true rfl, Nat.le_of_ble_eq_true rfl⟩
set_option maxRecDepth 20000 in
theorem cw_X5_mayDo_X5_maySlip_98 {s : State} {args : Array Value} (hts : ∀ w ∈ wsX5_mayDo, w.before args s = true) : CallB rm_X5_mayDo s args RX5 98 yX5_maySlip cX5_maySlip 2 (some .int) wsX5_maySlip rm_X5_maySlip 0 0 2 ∧ (Cond.static yX5_maySlip).before args s = true :=
  va_cwS 2 hts gX5_mayDo_X5_maySlip rfl rfl rfl (by decide +kernel) ⟨Nat.le_of_ble_eq_true rfl, Nat.le_of_ble_eq_true rfl⟩
theorem sw_df_X5_mayDo_1 (x : Int32) (h0 : ¬ x = 105) (h1 : ¬ x = 111) (h2 : ¬ x = 116) (h3 : ¬ x = 118) : Op.lookupswitch.offset (#[(105, 43), (111, 43), (116, 74), (118, 68)] : Array (Int × Int)).toList (80) x.toInt = 80 := (lv_osw h0 rfl).trans ((lv_osw h1 rfl).trans ((lv_osw h2 rfl).trans ((lv_osw h3 rfl).trans (rfl))))
set_option maxHeartbeats 4000000 in
set_option maxRecDepth 100000 in
theorem c_X5_mayDo (l : Launch) (G : va_G) (cI cC cZ : ClassId) (X : List (ClassId × FieldType)) (m0 m1 m2 m3 m4 m5 m6 m7 : Nat) (now : Nat → Int32) (thn : Nat → Int32) (past : Nat → Int32) (kept : Int32) (slt : Nat → Int32) (held : Nat → Int32) (mpad : Nat → Int32) (mpl : Int32) (mat : Int32) (ords : Nat → Int32) (ordn : Int32) (x1 : Int32) (x2 : Int32) (x3 : Int32) (rv : Int32) (hf : fX5_mayDo now x1 x2 x3 = some (rv)) : CT l yX5_mayDo wsX5_mayDo rm_X5_mayDo G (TY cI cC cZ X) [.ref m0, .int x1, .int x2, .int x3] (wMd cI cZ m0 m1 m2 m3 m4 m5 m6 m7 now thn past kept slt held mpad mpl mat ords ordn) (some (.int rv)) (wMd cI cZ m0 m1 m2 m3 m4 m5 m6 m7 now thn past kept slt held mpad mpl mat ords ordn) := by
  refine CT.of (cc := cX5_mayDo) (maxL := 4) (ret := (some .int)) RX5 rfl (by decide) rfl (Nat.le_of_ble_eq_true rfl) ?_
  intro p e s m args below meth c A ls C hr hlocks hnm h hl
  have hx := C.hx
  have hb := C.hb
  have hl : lv_has ls 4 [(0, .ref m0), (1, .int x1), (2, .int x2), (3, .int x3)] := hl
  unfold fX5_mayDo at hf
  refine lv_iload_n hx hb dX5_mayDo_0 rfl (lv_at hl 1 rfl) ?_
  by_cases hk0 : x1 = 105
  · replace hf := it_t hf hk0
    refine lv_lookup (tgt := 44) hx hb dX5_mayDo_1 (by decide) (by rw [hk0]; (first | done | rfl)) (by decide) ?_
    refine lv_iload_n hx hb dX5_mayDo_44 rfl (lv_at hl 1 rfl) ?_
    refine lv_bipush (v := 105) hx hb dX5_mayDo_45 (by decide) ?_
    refine lv_icmp_ne (tgt := 54) hx hb dX5_mayDo_47 (by decide) (fun hc => ?_) (fun hc => ?_)
    · replace hf := it_f hf hc
      refine lv_iconst (v := 1) hx hb dX5_mayDo_54 (by decide) ?_
      refine lv_iload_n hx hb dX5_mayDo_55 rfl (lv_at hl 2 rfl) ?_
      obtain ⟨r_1, hq_2, hf⟩ := ob1_use hf
      refine r_callS C h (cw_X5_mayDo_X5_isFor_87 C.hts) (rest := []) (c_X5_isFor l G cI cC cZ X (1 : Int32) x2 r_1 hq_2) [] rfl rfl rfl rfl hl.1 rfl (Nat.le_of_ble_eq_true rfl) ⟨Nat.le_of_ble_eq_true rfl, Nat.le_of_ble_eq_true rfl⟩ (wMd cI cZ m0 m1 m2 m3 m4 m5 m6 m7 now thn past kept slt held mpad mpl mat ords ordn) rfl rfl dX5_mayDo_56 (fun H locs h => ?_)
      refine lv_if_eq (tgt := 66) hx hb dX5_mayDo_59 (by decide) (fun hc => ?_) (fun hc => ?_)
      · replace hf := it_t hf hc
        refine lv_bipush (v := (-2)) hx hb dX5_mayDo_66 (by decide) ?_
        cases hf
        exact r_iret C h hr hlocks dX5_mayDo_68
      · replace hf := it_f hf hc
        refine lv_iconst (v := 0) hx hb dX5_mayDo_62 (by decide) ?_
        refine lv_goto (tgt := 68) hx hb dX5_mayDo_63 (by decide) ?_
        cases hf
        exact r_iret C h hr hlocks dX5_mayDo_68
    · replace hf := it_t hf hc
      refine lv_iconst (v := 0) hx hb dX5_mayDo_50 (by decide) ?_
      refine lv_goto (tgt := 55) hx hb dX5_mayDo_51 (by decide) ?_
      refine lv_iload_n hx hb dX5_mayDo_55 rfl (lv_at hl 2 rfl) ?_
      obtain ⟨r_3, hq_4, hf⟩ := ob1_use hf
      refine r_callS C h (cw_X5_mayDo_X5_isFor_87 C.hts) (rest := []) (c_X5_isFor l G cI cC cZ X (0 : Int32) x2 r_3 hq_4) [] rfl rfl rfl rfl hl.1 rfl (Nat.le_of_ble_eq_true rfl) ⟨Nat.le_of_ble_eq_true rfl, Nat.le_of_ble_eq_true rfl⟩ (wMd cI cZ m0 m1 m2 m3 m4 m5 m6 m7 now thn past kept slt held mpad mpl mat ords ordn) rfl rfl dX5_mayDo_56 (fun H locs h => ?_)
      refine lv_if_eq (tgt := 66) hx hb dX5_mayDo_59 (by decide) (fun hc => ?_) (fun hc => ?_)
      · replace hf := it_t hf hc
        refine lv_bipush (v := (-2)) hx hb dX5_mayDo_66 (by decide) ?_
        cases hf
        exact r_iret C h hr hlocks dX5_mayDo_68
      · replace hf := it_f hf hc
        refine lv_iconst (v := 0) hx hb dX5_mayDo_62 (by decide) ?_
        refine lv_goto (tgt := 68) hx hb dX5_mayDo_63 (by decide) ?_
        cases hf
        exact r_iret C h hr hlocks dX5_mayDo_68
  · replace hf := it_f hf hk0
    by_cases hk1 : x1 = 111
    · replace hf := it_t hf hk1
      refine lv_lookup (tgt := 44) hx hb dX5_mayDo_1 (by decide) (by rw [hk1]; (first | done | rfl)) (by decide) ?_
      refine lv_iload_n hx hb dX5_mayDo_44 rfl (lv_at hl 1 rfl) ?_
      refine lv_bipush (v := 105) hx hb dX5_mayDo_45 (by decide) ?_
      refine lv_icmp_ne (tgt := 54) hx hb dX5_mayDo_47 (by decide) (fun hc => ?_) (fun hc => ?_)
      · replace hf := it_f hf hc
        refine lv_iconst (v := 1) hx hb dX5_mayDo_54 (by decide) ?_
        refine lv_iload_n hx hb dX5_mayDo_55 rfl (lv_at hl 2 rfl) ?_
        obtain ⟨r_5, hq_6, hf⟩ := ob1_use hf
        refine r_callS C h (cw_X5_mayDo_X5_isFor_87 C.hts) (rest := []) (c_X5_isFor l G cI cC cZ X (1 : Int32) x2 r_5 hq_6) [] rfl rfl rfl rfl hl.1 rfl (Nat.le_of_ble_eq_true rfl) ⟨Nat.le_of_ble_eq_true rfl, Nat.le_of_ble_eq_true rfl⟩ (wMd cI cZ m0 m1 m2 m3 m4 m5 m6 m7 now thn past kept slt held mpad mpl mat ords ordn) rfl rfl dX5_mayDo_56 (fun H locs h => ?_)
        refine lv_if_eq (tgt := 66) hx hb dX5_mayDo_59 (by decide) (fun hc => ?_) (fun hc => ?_)
        · replace hf := it_t hf hc
          refine lv_bipush (v := (-2)) hx hb dX5_mayDo_66 (by decide) ?_
          cases hf
          exact r_iret C h hr hlocks dX5_mayDo_68
        · replace hf := it_f hf hc
          refine lv_iconst (v := 0) hx hb dX5_mayDo_62 (by decide) ?_
          refine lv_goto (tgt := 68) hx hb dX5_mayDo_63 (by decide) ?_
          cases hf
          exact r_iret C h hr hlocks dX5_mayDo_68
      · replace hf := it_t hf hc
        refine lv_iconst (v := 0) hx hb dX5_mayDo_50 (by decide) ?_
        refine lv_goto (tgt := 55) hx hb dX5_mayDo_51 (by decide) ?_
        refine lv_iload_n hx hb dX5_mayDo_55 rfl (lv_at hl 2 rfl) ?_
        obtain ⟨r_7, hq_8, hf⟩ := ob1_use hf
        refine r_callS C h (cw_X5_mayDo_X5_isFor_87 C.hts) (rest := []) (c_X5_isFor l G cI cC cZ X (0 : Int32) x2 r_7 hq_8) [] rfl rfl rfl rfl hl.1 rfl (Nat.le_of_ble_eq_true rfl) ⟨Nat.le_of_ble_eq_true rfl, Nat.le_of_ble_eq_true rfl⟩ (wMd cI cZ m0 m1 m2 m3 m4 m5 m6 m7 now thn past kept slt held mpad mpl mat ords ordn) rfl rfl dX5_mayDo_56 (fun H locs h => ?_)
        refine lv_if_eq (tgt := 66) hx hb dX5_mayDo_59 (by decide) (fun hc => ?_) (fun hc => ?_)
        · replace hf := it_t hf hc
          refine lv_bipush (v := (-2)) hx hb dX5_mayDo_66 (by decide) ?_
          cases hf
          exact r_iret C h hr hlocks dX5_mayDo_68
        · replace hf := it_f hf hc
          refine lv_iconst (v := 0) hx hb dX5_mayDo_62 (by decide) ?_
          refine lv_goto (tgt := 68) hx hb dX5_mayDo_63 (by decide) ?_
          cases hf
          exact r_iret C h hr hlocks dX5_mayDo_68
    · replace hf := it_f hf hk1
      by_cases hk2 : x1 = 116
      · replace hf := it_t hf hk2
        refine lv_lookup (tgt := 75) hx hb dX5_mayDo_1 (by decide) (by rw [hk2]; (first | done | rfl)) (by decide) ?_
        refine lv_aload_n hx hb dX5_mayDo_75 rfl (lv_at hl 0 rfl) ?_
        refine lv_iload_n hx hb dX5_mayDo_76 rfl (lv_at hl 2 rfl) ?_
        obtain ⟨r_9, hq_10, hf⟩ := ob1_use hf
        refine r_callV C h (cw_X5_mayDo_X5_mayPass_105 C.hts) (rest := []) (ci := 5) (N := 11) (Cn := RX5) (T := TX5) (c_X5_mayPass l G cI cC cZ X m0 m1 m2 m3 m4 m5 m6 m7 now thn past kept slt held mpad mpl mat ords ordn x2 r_9 hq_10) [0, 1, 2, 3, 4, 5, 6, 7] rfl rfl rfl rfl 0 rfl rfl hl.1 rfl (Nat.le_of_ble_eq_true rfl) ⟨Nat.le_of_ble_eq_true rfl, Nat.le_of_ble_eq_true rfl⟩ (wMd cI cZ m0 m1 m2 m3 m4 m5 m6 m7 now thn past kept slt held mpad mpl mat ords ordn) rfl rfl dX5_mayDo_77 (fun H locs h => ?_)
        cases hf
        exact r_iret C h hr hlocks dX5_mayDo_80
      · replace hf := it_f hf hk2
        by_cases hk3 : x1 = 118
        · replace hf := it_t hf hk3
          refine lv_lookup (tgt := 69) hx hb dX5_mayDo_1 (by decide) (by rw [hk3]; (first | done | rfl)) (by decide) ?_
          refine lv_iload_n hx hb dX5_mayDo_69 rfl (lv_at hl 2 rfl) ?_
          refine lv_iload_n hx hb dX5_mayDo_70 rfl (lv_at hl 3 rfl) ?_
          obtain ⟨r_11, hq_12, hf⟩ := ob1_use hf
          refine r_callS C h (cw_X5_mayDo_X5_mayTell_95 C.hts) (rest := []) (c_X5_mayTell l G cI cC cZ X x2 x3 r_11 hq_12) [] rfl rfl rfl rfl hl.1 rfl (Nat.le_of_ble_eq_true rfl) ⟨Nat.le_of_ble_eq_true rfl, Nat.le_of_ble_eq_true rfl⟩ (wMd cI cZ m0 m1 m2 m3 m4 m5 m6 m7 now thn past kept slt held mpad mpl mat ords ordn) rfl rfl dX5_mayDo_71 (fun H locs h => ?_)
          cases hf
          exact r_iret C h hr hlocks dX5_mayDo_74
        · replace hf := it_f hf hk3
          refine lv_lookup (off := 80) (tgt := 81) hx hb dX5_mayDo_1 (by decide) (sw_df_X5_mayDo_1 x1 hk0 hk1 hk2 hk3) (by decide) ?_
          refine lv_iconst (v := 0) hx hb dX5_mayDo_81 (by decide) ?_
          refine lv_iload_n hx hb dX5_mayDo_82 rfl (lv_at hl 2 rfl) ?_
          obtain ⟨r_13, hq_14, hf⟩ := ob1_use hf
          refine r_callS C h (cw_X5_mayDo_X5_maySlip_98 C.hts) (rest := []) (c_X5_maySlip l G cI cC cZ X (0 : Int32) x2 r_13 hq_14) [] rfl rfl rfl rfl hl.1 rfl (Nat.le_of_ble_eq_true rfl) ⟨Nat.le_of_ble_eq_true rfl, Nat.le_of_ble_eq_true rfl⟩ (wMd cI cZ m0 m1 m2 m3 m4 m5 m6 m7 now thn past kept slt held mpad mpl mat ords ordn) rfl rfl dX5_mayDo_83 (fun H locs h => ?_)
          cases hf
          exact r_iret C h hr hlocks dX5_mayDo_86
def rm_X5_does : Room := { frames := 5, cells := 0, slots := 0, locals := 110 }
set_option maxRecDepth 20000 in
theorem lk_X5_does_29 : Cond.fieldLink RX5 29 "LineDoublerModel" "orders" "[I" ∈ wsX5_does := List.mem_of_getElem? (i := 1) (by decide +kernel)
set_option maxRecDepth 20000 in
theorem lk_X5_does_7 : Cond.fieldLink RX5 7 "LineDoublerModel" "now" "[I" ∈ wsX5_does := List.mem_of_getElem? (i := 2) (by decide +kernel)
set_option maxRecDepth 20000 in
theorem in_X5_does_X5 : ∀ x ∈ wsX50, x ∈ wsX5_does := mem_r _ [69, 70, 71, 72, 73, 74, 75, 76, 77, 78, 79] (by decide +kernel)
set_option maxRecDepth 20000 in
theorem cw_X5_does_X5_mayDo_169 {s : State} {args : Array Value} (hts : ∀ w ∈ wsX5_does, w.before args s = true) : CallW rm_X5_does s args RX5 RX5 169 yX5_mayDo cX5_mayDo 4 (some .int) wsX5_mayDo rm_X5_mayDo 0 0 3 :=
  cwV 3 hts gX5_does_X5_mayDo rfl rfl rfl (by decide +kernel) ⟨Nat.le_of_ble_eq_true rfl, Nat.le_of_ble_eq_true rfl⟩
set_option maxRecDepth 20000 in
theorem cw_X5_does_X5_changes_91 {s : State} {args : Array Value} (hts : ∀ w ∈ wsX5_does, w.before args s = true) : CallW rm_X5_does s args RX5 RX5 91 yX5_changes cX5_changes 4 (some .int) wsX5_changes rm_X5_changes 0 0 2 :=
  cwV 2 hts gX5_does_X5_changes rfl rfl rfl (by decide +kernel) ⟨Nat.le_of_ble_eq_true rfl, Nat.le_of_ble_eq_true rfl⟩
set_option maxRecDepth 20000 in
theorem cw_X5_does_X5_passes_109 {s : State} {args : Array Value} (hts : ∀ w ∈ wsX5_does, w.before args s = true) : CallB rm_X5_does s args RX5 109 yX5_passes cX5_passes 3 none wsX5_passes rm_X5_passes 0 0 2 ∧ (Cond.static yX5_passes).before args s = true :=
  va_cwS 2 hts gX5_does_X5_passes rfl rfl rfl (by decide +kernel) ⟨Nat.le_of_ble_eq_true rfl, Nat.le_of_ble_eq_true rfl⟩
set_option maxRecDepth 20000 in
theorem cw_X5_does_X5_slips_101 {s : State} {args : Array Value} (hts : ∀ w ∈ wsX5_does, w.before args s = true) : CallW rm_X5_does s args RX5 RX5 101 yX5_slips cX5_slips 3 (some .int) wsX5_slips rm_X5_slips 0 0 2 :=
  cwV 2 hts gX5_does_X5_slips rfl rfl rfl (by decide +kernel) ⟨Nat.le_of_ble_eq_true rfl, Nat.le_of_ble_eq_true rfl⟩
theorem sw_df_X5_does_46 (x : Int32) (h0 : ¬ x = 105) (h1 : ¬ x = 111) (h2 : ¬ x = 116) (h3 : ¬ x = 118) : Op.lookupswitch.offset (#[(105, 42), (111, 42), (116, 78), (118, 64)] : Array (Int × Int)).toList (89) x.toInt = 89 := (lv_osw h0 rfl).trans ((lv_osw h1 rfl).trans ((lv_osw h2 rfl).trans ((lv_osw h3 rfl).trans (rfl))))
set_option maxHeartbeats 4000000 in
set_option maxRecDepth 100000 in
theorem c_X5_does (l : Launch) (G : va_G) (cI cC cZ : ClassId) (X : List (ClassId × FieldType)) (m0 m1 m2 m3 m4 m5 m6 m7 : Nat) (now : Nat → Int32) (thn : Nat → Int32) (past : Nat → Int32) (kept : Int32) (slt : Nat → Int32) (held : Nat → Int32) (mpad : Nat → Int32) (mpl : Int32) (mat : Int32) (ords : Nat → Int32) (ordn : Int32) (x1 : Int32) (rv : Int32) (now' : Nat → Int32) (hf : fX5_does now ords x1 = some (rv, now')) : CT l yX5_does wsX5_does rm_X5_does G (TY cI cC cZ X) [.ref m0, .int x1] (wMd cI cZ m0 m1 m2 m3 m4 m5 m6 m7 now thn past kept slt held mpad mpl mat ords ordn) (some (.int rv)) (wMd cI cZ m0 m1 m2 m3 m4 m5 m6 m7 now' thn past kept slt held mpad mpl mat ords ordn) := by
  refine CT.of (cc := cX5_does) (maxL := 5) (ret := (some .boolean)) RX5 rfl (by decide) rfl (Nat.le_of_ble_eq_true rfl) ?_
  intro p e s m args below meth c A ls C hr hlocks hnm h hl
  have hx := C.hx
  have hb := C.hb
  have hl : lv_has ls 5 [(0, .ref m0), (1, .int x1)] := hl
  unfold fX5_does at hf
  refine lv_aload_n hx hb dX5_does_0 rfl (lv_at hl 0 rfl) ?_
  refine r_get C h 0 9 (ci := 5) (N := 11) (Cn := RX5) (T := TX5) rfl rfl (by decide) in_X5_does_X5 lk_X5_does_29 rfl dX5_does_1 ?_
  refine lv_iconst (v := 3) hx hb dX5_does_4 (by decide) ?_
  refine lv_iload_n hx hb dX5_does_5 rfl (lv_at hl 1 rfl) ?_
  refine lv_imul hx hb dX5_does_6 ?_
  obtain ⟨j_1, hj_1, hf⟩ := chk_use hf
  refine r_ald C h 7 rfl rfl hj_1 dX5_does_7 ?_
  refine lv_topi (fun x2_2 ex2_2 => ?_)
  replace hf := nm_use hf ex2_2
  refine lv_istore_n (lv' := [(2, .int x2_2), (0, .ref m0), (1, .int x1)]) hx hb dX5_does_8 rfl hl (by decide) rfl (fun ls hl => ?_)
  refine lv_aload_n hx hb dX5_does_9 rfl (lv_at hl 1 rfl) ?_
  refine r_get C h 0 9 (ci := 5) (N := 11) (Cn := RX5) (T := TX5) rfl rfl (by decide) in_X5_does_X5 lk_X5_does_29 rfl dX5_does_10 ?_
  refine lv_iconst (v := 3) hx hb dX5_does_13 (by decide) ?_
  refine lv_iload_n hx hb dX5_does_14 rfl (lv_at hl 2 rfl) ?_
  refine lv_imul hx hb dX5_does_15 ?_
  refine lv_iconst (v := 1) hx hb dX5_does_16 (by decide) ?_
  refine lv_iadd hx hb dX5_does_17 ?_
  obtain ⟨j_3, hj_3, hf⟩ := chk_use hf
  refine r_ald C h 7 rfl rfl hj_3 dX5_does_18 ?_
  refine lv_topi (fun x3_4 ex3_4 => ?_)
  replace hf := nm_use hf ex3_4
  refine lv_istore_n (lv' := [(3, .int x3_4), (2, .int x2_2), (0, .ref m0), (1, .int x1)]) hx hb dX5_does_19 rfl hl (by decide) rfl (fun ls hl => ?_)
  refine lv_aload_n hx hb dX5_does_20 rfl (lv_at hl 2 rfl) ?_
  refine r_get C h 0 9 (ci := 5) (N := 11) (Cn := RX5) (T := TX5) rfl rfl (by decide) in_X5_does_X5 lk_X5_does_29 rfl dX5_does_21 ?_
  refine lv_iconst (v := 3) hx hb dX5_does_24 (by decide) ?_
  refine lv_iload_n hx hb dX5_does_25 rfl (lv_at hl 3 rfl) ?_
  refine lv_imul hx hb dX5_does_26 ?_
  refine lv_iconst (v := 2) hx hb dX5_does_27 (by decide) ?_
  refine lv_iadd hx hb dX5_does_28 ?_
  obtain ⟨j_5, hj_5, hf⟩ := chk_use hf
  refine r_ald C h 7 rfl rfl hj_5 dX5_does_29 ?_
  refine lv_topi (fun x4_6 ex4_6 => ?_)
  replace hf := nm_use hf ex4_6
  refine lv_istore (lv' := [(4, .int x4_6), (3, .int x3_4), (2, .int x2_2), (0, .ref m0), (1, .int x1)]) hx hb dX5_does_30 hl (by decide) rfl (fun ls hl => ?_)
  refine lv_aload_n hx hb dX5_does_32 rfl (lv_at hl 3 rfl) ?_
  refine lv_iload_n hx hb dX5_does_33 rfl (lv_at hl 2 rfl) ?_
  refine lv_iload_n hx hb dX5_does_34 rfl (lv_at hl 1 rfl) ?_
  refine lv_iload hx hb dX5_does_35 (lv_at hl 0 rfl) ?_
  obtain ⟨r_7, hq_8, hf⟩ := ob1_use hf
  refine r_callV C h (cw_X5_does_X5_mayDo_169 C.hts) (rest := []) (ci := 5) (N := 11) (Cn := RX5) (T := TX5) (c_X5_mayDo l G cI cC cZ X m0 m1 m2 m3 m4 m5 m6 m7 now thn past kept slt held mpad mpl mat ords ordn x2_2 x3_4 x4_6 r_7 hq_8) [0, 1, 2, 3, 4, 5, 6, 7] rfl rfl rfl rfl 0 rfl rfl hl.1 rfl (Nat.le_of_ble_eq_true rfl) ⟨Nat.le_of_ble_eq_true rfl, Nat.le_of_ble_eq_true rfl⟩ (wMd cI cZ m0 m1 m2 m3 m4 m5 m6 m7 now thn past kept slt held mpad mpl mat ords ordn) rfl rfl dX5_does_37 (fun H locs h => ?_)
  refine lv_if_eq (tgt := 45) hx hb dX5_does_40 (by decide) (fun hc => ?_) (fun hc => ?_)
  · replace hf := it_t hf hc
    refine lv_iload_n hx hb dX5_does_45 rfl (lv_at hl 2 rfl) ?_
    by_cases hk0 : x2_2 = 105
    · replace hf := it_t hf hk0
      refine lv_lookup (tgt := 88) hx hb dX5_does_46 (by decide) (by rw [hk0]; (first | done | rfl)) (by decide) ?_
      refine lv_aload_n hx hb dX5_does_88 rfl (lv_at hl 3 rfl) ?_
      refine lv_iconst (v := 1) hx hb dX5_does_89 (by decide) ?_
      refine lv_iload_n hx hb dX5_does_90 rfl (lv_at hl 2 rfl) ?_
      refine lv_bipush (v := 105) hx hb dX5_does_91 (by decide) ?_
      refine lv_icmp_ne (tgt := 100) hx hb dX5_does_93 (by decide) (fun hc => ?_) (fun hc => ?_)
      · replace hf := it_f hf hc
        refine lv_iconst (v := 1) hx hb dX5_does_100 (by decide) ?_
        refine lv_iadd hx hb dX5_does_101 ?_
        refine lv_iload_n hx hb dX5_does_102 rfl (lv_at hl 1 rfl) ?_
        obtain ⟨r_9, now_10, hq_11, hf⟩ := ob2_use hf
        refine r_callV C h (cw_X5_does_X5_changes_91 C.hts) (rest := []) (ci := 5) (N := 11) (Cn := RX5) (T := TX5) (c_X5_changes l G cI cC cZ X m0 m1 m2 m3 m4 m5 m6 m7 now thn past kept slt held mpad mpl mat ords ordn ((1 : Int32) + 1) x3_4 r_9 now_10 hq_11) [0, 1, 2, 3, 4, 5, 6, 7] rfl rfl rfl rfl 0 rfl rfl hl.1 rfl (Nat.le_of_ble_eq_true rfl) ⟨Nat.le_of_ble_eq_true rfl, Nat.le_of_ble_eq_true rfl⟩ (wMd cI cZ m0 m1 m2 m3 m4 m5 m6 m7 now_10 thn past kept slt held mpad mpl mat ords ordn) rfl rfl dX5_does_103 (fun H locs h => ?_)
        refine lv_pop hx hb dX5_does_106 rfl ?_
        refine lv_goto (tgt := 152) hx hb dX5_does_107 (by decide) ?_
        refine lv_iconst (v := 1) hx hb dX5_does_152 (by decide) ?_
        cases hf
        exact r_zret C h hr hlocks rfl dX5_does_153
      · replace hf := it_t hf hc
        refine lv_iconst (v := 0) hx hb dX5_does_96 (by decide) ?_
        refine lv_goto (tgt := 101) hx hb dX5_does_97 (by decide) ?_
        refine lv_iadd hx hb dX5_does_101 ?_
        refine lv_iload_n hx hb dX5_does_102 rfl (lv_at hl 1 rfl) ?_
        obtain ⟨r_12, now_13, hq_14, hf⟩ := ob2_use hf
        refine r_callV C h (cw_X5_does_X5_changes_91 C.hts) (rest := []) (ci := 5) (N := 11) (Cn := RX5) (T := TX5) (c_X5_changes l G cI cC cZ X m0 m1 m2 m3 m4 m5 m6 m7 now thn past kept slt held mpad mpl mat ords ordn ((1 : Int32) + 0) x3_4 r_12 now_13 hq_14) [0, 1, 2, 3, 4, 5, 6, 7] rfl rfl rfl rfl 0 rfl rfl hl.1 rfl (Nat.le_of_ble_eq_true rfl) ⟨Nat.le_of_ble_eq_true rfl, Nat.le_of_ble_eq_true rfl⟩ (wMd cI cZ m0 m1 m2 m3 m4 m5 m6 m7 now_13 thn past kept slt held mpad mpl mat ords ordn) rfl rfl dX5_does_103 (fun H locs h => ?_)
        refine lv_pop hx hb dX5_does_106 rfl ?_
        refine lv_goto (tgt := 152) hx hb dX5_does_107 (by decide) ?_
        refine lv_iconst (v := 1) hx hb dX5_does_152 (by decide) ?_
        cases hf
        exact r_zret C h hr hlocks rfl dX5_does_153
    · replace hf := it_f hf hk0
      by_cases hk1 : x2_2 = 111
      · replace hf := it_t hf hk1
        refine lv_lookup (tgt := 88) hx hb dX5_does_46 (by decide) (by rw [hk1]; (first | done | rfl)) (by decide) ?_
        refine lv_aload_n hx hb dX5_does_88 rfl (lv_at hl 3 rfl) ?_
        refine lv_iconst (v := 1) hx hb dX5_does_89 (by decide) ?_
        refine lv_iload_n hx hb dX5_does_90 rfl (lv_at hl 2 rfl) ?_
        refine lv_bipush (v := 105) hx hb dX5_does_91 (by decide) ?_
        refine lv_icmp_ne (tgt := 100) hx hb dX5_does_93 (by decide) (fun hc => ?_) (fun hc => ?_)
        · replace hf := it_f hf hc
          refine lv_iconst (v := 1) hx hb dX5_does_100 (by decide) ?_
          refine lv_iadd hx hb dX5_does_101 ?_
          refine lv_iload_n hx hb dX5_does_102 rfl (lv_at hl 1 rfl) ?_
          obtain ⟨r_15, now_16, hq_17, hf⟩ := ob2_use hf
          refine r_callV C h (cw_X5_does_X5_changes_91 C.hts) (rest := []) (ci := 5) (N := 11) (Cn := RX5) (T := TX5) (c_X5_changes l G cI cC cZ X m0 m1 m2 m3 m4 m5 m6 m7 now thn past kept slt held mpad mpl mat ords ordn ((1 : Int32) + 1) x3_4 r_15 now_16 hq_17) [0, 1, 2, 3, 4, 5, 6, 7] rfl rfl rfl rfl 0 rfl rfl hl.1 rfl (Nat.le_of_ble_eq_true rfl) ⟨Nat.le_of_ble_eq_true rfl, Nat.le_of_ble_eq_true rfl⟩ (wMd cI cZ m0 m1 m2 m3 m4 m5 m6 m7 now_16 thn past kept slt held mpad mpl mat ords ordn) rfl rfl dX5_does_103 (fun H locs h => ?_)
          refine lv_pop hx hb dX5_does_106 rfl ?_
          refine lv_goto (tgt := 152) hx hb dX5_does_107 (by decide) ?_
          refine lv_iconst (v := 1) hx hb dX5_does_152 (by decide) ?_
          cases hf
          exact r_zret C h hr hlocks rfl dX5_does_153
        · replace hf := it_t hf hc
          refine lv_iconst (v := 0) hx hb dX5_does_96 (by decide) ?_
          refine lv_goto (tgt := 101) hx hb dX5_does_97 (by decide) ?_
          refine lv_iadd hx hb dX5_does_101 ?_
          refine lv_iload_n hx hb dX5_does_102 rfl (lv_at hl 1 rfl) ?_
          obtain ⟨r_18, now_19, hq_20, hf⟩ := ob2_use hf
          refine r_callV C h (cw_X5_does_X5_changes_91 C.hts) (rest := []) (ci := 5) (N := 11) (Cn := RX5) (T := TX5) (c_X5_changes l G cI cC cZ X m0 m1 m2 m3 m4 m5 m6 m7 now thn past kept slt held mpad mpl mat ords ordn ((1 : Int32) + 0) x3_4 r_18 now_19 hq_20) [0, 1, 2, 3, 4, 5, 6, 7] rfl rfl rfl rfl 0 rfl rfl hl.1 rfl (Nat.le_of_ble_eq_true rfl) ⟨Nat.le_of_ble_eq_true rfl, Nat.le_of_ble_eq_true rfl⟩ (wMd cI cZ m0 m1 m2 m3 m4 m5 m6 m7 now_19 thn past kept slt held mpad mpl mat ords ordn) rfl rfl dX5_does_103 (fun H locs h => ?_)
          refine lv_pop hx hb dX5_does_106 rfl ?_
          refine lv_goto (tgt := 152) hx hb dX5_does_107 (by decide) ?_
          refine lv_iconst (v := 1) hx hb dX5_does_152 (by decide) ?_
          cases hf
          exact r_zret C h hr hlocks rfl dX5_does_153
      · replace hf := it_f hf hk1
        by_cases hk2 : x2_2 = 116
        · replace hf := it_t hf hk2
          refine lv_lookup (tgt := 124) hx hb dX5_does_46 (by decide) (by rw [hk2]; (first | done | rfl)) (by decide) ?_
          refine lv_aload_n hx hb dX5_does_124 rfl (lv_at hl 3 rfl) ?_
          refine r_get C h 0 0 (ci := 5) (N := 11) (Cn := RX5) (T := TX5) rfl rfl (by decide) in_X5_does_X5 lk_X5_does_7 rfl dX5_does_125 ?_
          refine lv_iload_n hx hb dX5_does_128 rfl (lv_at hl 1 rfl) ?_
          obtain ⟨now_21, hq_22, hf⟩ := ob1_use hf
          refine r_callS C h (cw_X5_does_X5_passes_109 C.hts) (rest := []) (c_X5_passes l G cI cC cZ X m1 now x3_4 now_21 hq_22) [1] rfl rfl rfl rfl hl.1 rfl (Nat.le_of_ble_eq_true rfl) ⟨Nat.le_of_ble_eq_true rfl, Nat.le_of_ble_eq_true rfl⟩ (wMd cI cZ m0 m1 m2 m3 m4 m5 m6 m7 now_21 thn past kept slt held mpad mpl mat ords ordn) rfl rfl dX5_does_129 (fun H locs h => ?_)
          refine lv_goto (tgt := 152) hx hb dX5_does_132 (by decide) ?_
          refine lv_iconst (v := 1) hx hb dX5_does_152 (by decide) ?_
          cases hf
          exact r_zret C h hr hlocks rfl dX5_does_153
        · replace hf := it_f hf hk2
          by_cases hk3 : x2_2 = 118
          · replace hf := it_t hf hk3
            refine lv_lookup (tgt := 110) hx hb dX5_does_46 (by decide) (by rw [hk3]; (first | done | rfl)) (by decide) ?_
            refine lv_aload_n hx hb dX5_does_110 rfl (lv_at hl 3 rfl) ?_
            refine lv_bipush (v := 26) hx hb dX5_does_111 (by decide) ?_
            refine lv_iload_n hx hb dX5_does_113 rfl (lv_at hl 1 rfl) ?_
            refine lv_iadd hx hb dX5_does_114 ?_
            refine lv_iload hx hb dX5_does_115 (lv_at hl 0 rfl) ?_
            obtain ⟨r_23, now_24, hq_25, hf⟩ := ob2_use hf
            refine r_callV C h (cw_X5_does_X5_changes_91 C.hts) (rest := []) (ci := 5) (N := 11) (Cn := RX5) (T := TX5) (c_X5_changes l G cI cC cZ X m0 m1 m2 m3 m4 m5 m6 m7 now thn past kept slt held mpad mpl mat ords ordn (26 + x3_4) x4_6 r_23 now_24 hq_25) [0, 1, 2, 3, 4, 5, 6, 7] rfl rfl rfl rfl 0 rfl rfl hl.1 rfl (Nat.le_of_ble_eq_true rfl) ⟨Nat.le_of_ble_eq_true rfl, Nat.le_of_ble_eq_true rfl⟩ (wMd cI cZ m0 m1 m2 m3 m4 m5 m6 m7 now_24 thn past kept slt held mpad mpl mat ords ordn) rfl rfl dX5_does_117 (fun H locs h => ?_)
            refine lv_pop hx hb dX5_does_120 rfl ?_
            refine lv_goto (tgt := 152) hx hb dX5_does_121 (by decide) ?_
            refine lv_iconst (v := 1) hx hb dX5_does_152 (by decide) ?_
            cases hf
            exact r_zret C h hr hlocks rfl dX5_does_153
          · replace hf := it_f hf hk3
            refine lv_lookup (off := 89) (tgt := 135) hx hb dX5_does_46 (by decide) (sw_df_X5_does_46 x2_2 hk0 hk1 hk2 hk3) (by decide) ?_
            refine lv_aload_n hx hb dX5_does_135 rfl (lv_at hl 3 rfl) ?_
            refine lv_iload_n hx hb dX5_does_136 rfl (lv_at hl 2 rfl) ?_
            refine lv_bipush (v := 60) hx hb dX5_does_137 (by decide) ?_
            refine lv_icmp_ne (tgt := 146) hx hb dX5_does_139 (by decide) (fun hc => ?_) (fun hc => ?_)
            · replace hf := it_f hf hc
              refine lv_iconst (v := 1) hx hb dX5_does_146 (by decide) ?_
              refine lv_iload_n hx hb dX5_does_147 rfl (lv_at hl 1 rfl) ?_
              obtain ⟨r_26, now_27, hq_28, hf⟩ := ob2_use hf
              refine r_callV C h (cw_X5_does_X5_slips_101 C.hts) (rest := []) (ci := 5) (N := 11) (Cn := RX5) (T := TX5) (c_X5_slips l G cI cC cZ X m0 m1 m2 m3 m4 m5 m6 m7 now thn past kept slt held mpad mpl mat ords ordn (1 : Int32) x3_4 r_26 now_27 hq_28) [0, 1, 2, 3, 4, 5, 6, 7] rfl rfl rfl rfl 0 rfl rfl hl.1 rfl (Nat.le_of_ble_eq_true rfl) ⟨Nat.le_of_ble_eq_true rfl, Nat.le_of_ble_eq_true rfl⟩ (wMd cI cZ m0 m1 m2 m3 m4 m5 m6 m7 now_27 thn past kept slt held mpad mpl mat ords ordn) rfl rfl dX5_does_148 (fun H locs h => ?_)
              refine lv_pop hx hb dX5_does_151 rfl ?_
              refine lv_iconst (v := 1) hx hb dX5_does_152 (by decide) ?_
              cases hf
              exact r_zret C h hr hlocks rfl dX5_does_153
            · replace hf := it_t hf hc
              refine lv_iconst (v := 0) hx hb dX5_does_142 (by decide) ?_
              refine lv_goto (tgt := 147) hx hb dX5_does_143 (by decide) ?_
              refine lv_iload_n hx hb dX5_does_147 rfl (lv_at hl 1 rfl) ?_
              obtain ⟨r_29, now_30, hq_31, hf⟩ := ob2_use hf
              refine r_callV C h (cw_X5_does_X5_slips_101 C.hts) (rest := []) (ci := 5) (N := 11) (Cn := RX5) (T := TX5) (c_X5_slips l G cI cC cZ X m0 m1 m2 m3 m4 m5 m6 m7 now thn past kept slt held mpad mpl mat ords ordn (0 : Int32) x3_4 r_29 now_30 hq_31) [0, 1, 2, 3, 4, 5, 6, 7] rfl rfl rfl rfl 0 rfl rfl hl.1 rfl (Nat.le_of_ble_eq_true rfl) ⟨Nat.le_of_ble_eq_true rfl, Nat.le_of_ble_eq_true rfl⟩ (wMd cI cZ m0 m1 m2 m3 m4 m5 m6 m7 now_30 thn past kept slt held mpad mpl mat ords ordn) rfl rfl dX5_does_148 (fun H locs h => ?_)
              refine lv_pop hx hb dX5_does_151 rfl ?_
              refine lv_iconst (v := 1) hx hb dX5_does_152 (by decide) ?_
              cases hf
              exact r_zret C h hr hlocks rfl dX5_does_153
  · replace hf := it_f hf hc
    refine lv_iconst (v := 0) hx hb dX5_does_43 (by decide) ?_
    cases hf
    exact r_zret C h hr hlocks rfl dX5_does_44
def rm_X5_carryOut : Room := { frames := 6, cells := 0, slots := 0, locals := 134 }
set_option maxRecDepth 20000 in
theorem lk_X5_carryOut_112 : Cond.fieldLink RX5 112 "LineDoublerModel" "padded" "I" ∈ wsX5_carryOut := List.mem_of_getElem? (i := 1) (by decide +kernel)
set_option maxRecDepth 20000 in
theorem lk_X5_carryOut_153 : Cond.fieldLink RX5 153 "LineDoublerModel" "ordered" "I" ∈ wsX5_carryOut := List.mem_of_getElem? (i := 2) (by decide +kernel)
set_option maxRecDepth 20000 in
theorem in_X5_carryOut_X5 : ∀ x ∈ wsX50, x ∈ wsX5_carryOut := mem_r _ [106, 107, 108, 109, 110, 111, 112, 113, 114, 115, 116] (by decide +kernel)
set_option maxRecDepth 20000 in
theorem cw_X5_carryOut_X5_isText_166 {s : State} {args : Array Value} (hts : ∀ w ∈ wsX5_carryOut, w.before args s = true) : CallW rm_X5_carryOut s args RX5 RX5 166 yX5_isText cX5_isText 2 (some .boolean) wsX5_isText rm_X5_isText 0 0 0 :=
  cwV 0 hts gX5_carryOut_X5_isText rfl rfl rfl (by decide +kernel) ⟨Nat.le_of_ble_eq_true rfl, Nat.le_of_ble_eq_true rfl⟩
set_option maxRecDepth 20000 in
theorem cw_X5_carryOut_X5_records_44 {s : State} {args : Array Value} (hts : ∀ w ∈ wsX5_carryOut, w.before args s = true) : CallW rm_X5_carryOut s args RX5 RX5 44 yX5_records cX5_records 2 none wsX5_records rm_X5_records 0 0 0 :=
  cwV 0 hts gX5_carryOut_X5_records rfl rfl rfl (by decide +kernel) ⟨Nat.le_of_ble_eq_true rfl, Nat.le_of_ble_eq_true rfl⟩
set_option maxRecDepth 20000 in
theorem cw_X5_carryOut_X5_does_173 {s : State} {args : Array Value} (hts : ∀ w ∈ wsX5_carryOut, w.before args s = true) : CallW rm_X5_carryOut s args RX5 RX5 173 yX5_does cX5_does 5 (some .boolean) wsX5_does rm_X5_does 0 0 1 :=
  cwV 1 hts gX5_carryOut_X5_does rfl rfl rfl (by decide +kernel) ⟨Nat.le_of_ble_eq_true rfl, Nat.le_of_ble_eq_true rfl⟩
set_option maxHeartbeats 4000000 in
set_option maxRecDepth 100000 in
theorem c_X5_carryOut (l : Launch) (G : va_G) (cI cC cZ : ClassId) (X : List (ClassId × FieldType)) (m0 m1 m2 m3 m4 m5 m6 m7 : Nat) (now : Nat → Int32) (thn : Nat → Int32) (past : Nat → Int32) (kept : Int32) (slt : Nat → Int32) (held : Nat → Int32) (mpad : Nat → Int32) (mpl : Int32) (mat : Int32) (ords : Nat → Int32) (ordn : Int32) (rv : Int32) (now' : Nat → Int32) (past' : Nat → Int32) (kept' : Int32) (mpl' : Int32) (mat' : Int32) (ords' : Nat → Int32) (ordn' : Int32) (hf : fX5_carryOut now past kept mpad mpl mat ords ordn = some (rv, now', past', kept', mpl', mat', ords', ordn')) : CT l yX5_carryOut wsX5_carryOut rm_X5_carryOut G (TY cI cC cZ X) [.ref m0] (wMd cI cZ m0 m1 m2 m3 m4 m5 m6 m7 now thn past kept slt held mpad mpl mat ords ordn) (some (.int rv)) (wMd cI cZ m0 m1 m2 m3 m4 m5 m6 m7 now' thn past' kept' slt held mpad mpl' mat' ords' ordn') := by
  refine CT.of (cc := cX5_carryOut) (maxL := 2) (ret := (some .int)) RX5 rfl (by decide) rfl (Nat.le_of_ble_eq_true rfl) ?_
  intro p e s m args below meth c A ls C hr hlocks hnm h hl
  have hx := C.hx
  have hb := C.hb
  have hl : lv_has ls 2 [(0, .ref m0)] := hl
  have cut_21 : ∀ (n : Nat) (now : Nat → Int32) (past : Nat → Int32) (kept : Int32) (mpl : Int32) (mat : Int32) (ords : Nat → Int32) (ordn : Int32) (x1 : Int32) (H : Heap) (locs : List Loc) (ls : Array Slot), Hx s G A (wMd cI cZ m0 m1 m2 m3 m4 m5 m6 m7 now thn past kept slt held mpad mpl mat ords ordn) H locs → lv_has ls 2 [(0, .ref m0), (1, .int x1)] → fX5_carryOut_21 n now past kept mpad mpl mat ords ordn x1 = some (rv, now', past', kept', mpl', mat', ords', ordn') → W p l e rm_X5_carryOut s m args below meth c H locs 0 0 (MQ below (Qx G (some (.int rv)) (wMd cI cZ m0 m1 m2 m3 m4 m5 m6 m7 now' thn past' kept' slt held mpad mpl' mat' ords' ordn') A) args s 0 0 A) (F0 m 21 ls []) := by
    intro n
    induction n with
    | zero =>
      intro now past kept mpl mat ords ordn x1 H locs ls h hl hf
      exact (nn_some _ hf).elim
    | succ n ih =>
      intro now past kept mpl mat ords ordn x1 H locs ls h hl hf
      have hf : fX5_carryOut_21_b (fX5_carryOut_21 n) now past kept mpad mpl mat ords ordn x1 = some (rv, now', past', kept', mpl', mat', ords', ordn') := hf
      unfold fX5_carryOut_21_b at hf
      refine lv_iload_n hx hb dX5_carryOut_21 rfl (lv_at hl 1 rfl) ?_
      refine lv_aload_n hx hb dX5_carryOut_22 rfl (lv_at hl 0 rfl) ?_
      refine r_get C h 0 10 (ci := 5) (N := 11) (Cn := RX5) (T := TX5) rfl rfl (by decide) in_X5_carryOut_X5 lk_X5_carryOut_153 rfl dX5_carryOut_23 ?_
      refine lv_icmp_ge (tgt := 43) hx hb dX5_carryOut_26 (by decide) (fun hc => ?_) (fun hc => ?_)
      · replace hf := it_t hf hc
        refine lv_iload_n hx hb dX5_carryOut_43 rfl (lv_at hl 1 rfl) ?_
        cases hf
        exact r_iret C h hr hlocks dX5_carryOut_44
      · replace hf := it_f hf hc
        refine lv_aload_n hx hb dX5_carryOut_29 rfl (lv_at hl 0 rfl) ?_
        refine lv_iload_n hx hb dX5_carryOut_30 rfl (lv_at hl 1 rfl) ?_
        obtain ⟨r_1, now_2, hq_3, hf⟩ := ob2_use hf
        refine r_callV C h (cw_X5_carryOut_X5_does_173 C.hts) (rest := []) (ci := 5) (N := 11) (Cn := RX5) (T := TX5) (c_X5_does l G cI cC cZ X m0 m1 m2 m3 m4 m5 m6 m7 now thn past kept slt held mpad mpl mat ords ordn x1 r_1 now_2 hq_3) [0, 1, 2, 3, 4, 5, 6, 7] rfl rfl rfl rfl 0 rfl rfl hl.1 rfl (Nat.le_of_ble_eq_true rfl) ⟨Nat.le_of_ble_eq_true rfl, Nat.le_of_ble_eq_true rfl⟩ (wMd cI cZ m0 m1 m2 m3 m4 m5 m6 m7 now_2 thn past kept slt held mpad mpl mat ords ordn) rfl rfl dX5_carryOut_31 (fun H locs h => ?_)
        refine lv_if_eq (tgt := 43) hx hb dX5_carryOut_34 (by decide) (fun hc => ?_) (fun hc => ?_)
        · replace hf := it_t hf hc
          refine lv_iload_n hx hb dX5_carryOut_43 rfl (lv_at hl 1 rfl) ?_
          cases hf
          exact r_iret C h hr hlocks dX5_carryOut_44
        · replace hf := it_f hf hc
          obtain ⟨x1_4, ex1_4⟩ : ∃ y : Int32, y = x1 + 1 := ⟨_, rfl⟩
          replace hf := nm_use hf ex1_4
          refine lv_iinc (v := x1_4) (lv' := [(1, .int x1_4), (0, .ref m0)]) hx hb dX5_carryOut_37 hl (k := 1) rfl (by rw [ex1_4]; rfl) (by decide) rfl (fun ls hl => ?_)
          refine lv_goto (tgt := 21) hx hb dX5_carryOut_40 (by decide) ?_
          exact ih now_2 past kept mpl mat ords ordn x1_4 _ _ _ h (lv_sub hl [1, 0] rfl) hf
  unfold fX5_carryOut at hf
  refine lv_aload_n hx hb dX5_carryOut_0 rfl (lv_at hl 0 rfl) ?_
  obtain ⟨r_1, mat_2, ords_3, ordn_4, hq_5, hf⟩ := ob4_use hf
  refine r_callV C h (cw_X5_carryOut_X5_isText_166 C.hts) (rest := []) (ci := 5) (N := 11) (Cn := RX5) (T := TX5) (c_X5_isText l G cI cC cZ X m0 m1 m2 m3 m4 m5 m6 m7 now thn past kept slt held mpad mpl mat ords ordn r_1 mat_2 ords_3 ordn_4 hq_5) [0, 1, 2, 3, 4, 5, 6, 7] rfl rfl rfl rfl 0 rfl rfl hl.1 rfl (Nat.le_of_ble_eq_true rfl) ⟨Nat.le_of_ble_eq_true rfl, Nat.le_of_ble_eq_true rfl⟩ (wMd cI cZ m0 m1 m2 m3 m4 m5 m6 m7 now thn past kept slt held mpad mpl mat_2 ords_3 ordn_4) rfl rfl dX5_carryOut_1 (fun H locs h => ?_)
  refine lv_if_ne (tgt := 10) hx hb dX5_carryOut_4 (by decide) (fun hc => ?_) (fun hc => ?_)
  · replace hf := it_f hf hc
    refine lv_aload_n hx hb dX5_carryOut_10 rfl (lv_at hl 0 rfl) ?_
    obtain ⟨past_6, kept_7, hq_8, hf⟩ := ob2_use hf
    refine r_callV C h (cw_X5_carryOut_X5_records_44 C.hts) (rest := []) (ci := 5) (N := 11) (Cn := RX5) (T := TX5) (c_X5_records l G cI cC cZ X m0 m1 m2 m3 m4 m5 m6 m7 now thn past kept slt held mpad mpl mat_2 ords_3 ordn_4 past_6 kept_7 hq_8) [0, 1, 2, 3, 4, 5, 6, 7] rfl rfl rfl rfl 0 rfl rfl hl.1 rfl (Nat.le_of_ble_eq_true rfl) ⟨Nat.le_of_ble_eq_true rfl, Nat.le_of_ble_eq_true rfl⟩ (wMd cI cZ m0 m1 m2 m3 m4 m5 m6 m7 now thn past_6 kept_7 slt held mpad mpl mat_2 ords_3 ordn_4) rfl rfl dX5_carryOut_11 (fun H locs h => ?_)
    refine lv_aload_n hx hb dX5_carryOut_14 rfl (lv_at hl 0 rfl) ?_
    refine lv_iconst (v := 0) hx hb dX5_carryOut_15 (by decide) ?_
    refine r_put C h 0 7 (ci := 5) (N := 11) (Cn := RX5) (T := TX5) (ty0 := tyX5) rfl rfl (by decide) in_X5_carryOut_X5 tyX5_ok nmX5 lk_X5_carryOut_112 rfl rfl rfl (Nat.le_of_ble_eq_true rfl) (wMd cI cZ m0 m1 m2 m3 m4 m5 m6 m7 now thn past_6 kept_7 slt held mpad 0 mat_2 ords_3 ordn_4) rfl dX5_carryOut_16 (fun H locs h => ?_)
    refine lv_iconst (v := 0) hx hb dX5_carryOut_19 (by decide) ?_
    refine lv_istore_n (lv' := [(1, .int 0), (0, .ref m0)]) hx hb dX5_carryOut_20 rfl hl (by decide) rfl (fun ls hl => ?_)
    exact cut_21 KF now past_6 kept_7 0 mat_2 ords_3 ordn_4 0 _ _ _ h (lv_sub hl [1, 0] rfl) hf
  · replace hf := it_t hf hc
    refine lv_bipush (v := (-3)) hx hb dX5_carryOut_7 (by decide) ?_
    cases hf
    exact r_iret C h hr hlocks dX5_carryOut_9
