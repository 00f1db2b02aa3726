/-! ===== mirrors of the second side (definitions; no walk of it is wanted here) ===== -/
/-- the mirror of X5_in -/
def fX5_in (x0 : Int32) (x1 : Int32) (x2 : Int32) : Option (Int32) :=
  (if x0 < x1 then
  some (0)
  else
  (if x2 < x0 then
  some (0)
  else
  some (1)))

def fX5_lays_3_b (rec : Nat → (Nat → Int32) → Nat → (Nat → Int32) → Int32 → Int32 → Int32 → Option ((Nat → Int32))) (un : Nat) (uf : Nat → Int32) (vn : Nat) (vf : Nat → Int32) (x1 : Int32) (x3 : Int32) (x4 : Int32) : Option ((Nat → Int32)) :=
  (if 234 ≤ x4 then
  some (vf)
  else
  chk (x1 + x4) un fun j_1 =>
  chk (x3 + x4) vn fun j_2 =>
  nm (upd vf j_2 (uf j_1)) fun vf_3 =>
  nm (x4 + 1) fun x4_4 =>
  rec un uf vn vf_3 x1 x3 x4_4)
def fX5_lays_3 : Nat → Nat → (Nat → Int32) → Nat → (Nat → Int32) → Int32 → Int32 → Int32 → Option ((Nat → Int32))
  | 0 => fun _ _ _ _ _ _ _ => none
  | n + 1 => fX5_lays_3_b (fX5_lays_3 n)

/-- the mirror of X5_lays -/
def fX5_lays (un : Nat) (uf : Nat → Int32) (vn : Nat) (vf : Nat → Int32) (x1 : Int32) (x3 : Int32) : Option ((Nat → Int32)) :=
  fX5_lays_3 KF un uf vn vf x1 x3 0

/-- the mirror of X5_of -/
def fX5_of (sf : Nat → Int32) (x1 : Int32) (x2 : Int32) : Option (Int32) :=
  chk ((42 + (4 * x1)) + x2) 234 fun j_1 =>
  some ((sf j_1))

def fX5_misses_5_b (rec : (Nat → Int32) → Int32 → Int32 → Int32 → Int32 → Option ((Nat → Int32))) (sf : Nat → Int32) (x1 : Int32) (x2 : Int32) (x3 : Int32) (x4 : Int32) : Option ((Nat → Int32)) :=
  (if x4 < 206 then
  nm (upd sf 202 x1) fun sf_1 =>
  nm (upd sf_1 203 x2) fun sf_2 =>
  nm (upd sf_2 204 x3) fun sf_3 =>
  nm (upd sf_3 205 (sf_3 0)) fun sf_4 =>
  (if 8 ≤ (sf_4 24) then
  nm (upd sf_4 24 ((sf_4 24) + 0)) fun sf_5 =>
  nm (upd sf_5 12 ((sf_5 12) + 1)) fun sf_6 =>
  some (sf_6)
  else
  nm (upd sf_4 24 ((sf_4 24) + 1)) fun sf_7 =>
  nm (upd sf_7 12 ((sf_7 12) + 1)) fun sf_8 =>
  some (sf_8))
  else
  chk (x4 - 4) 234 fun j_9 =>
  chk x4 234 fun j_10 =>
  nm (upd sf j_10 (sf j_9)) fun sf_11 =>
  nm (x4 + (-1)) fun x4_12 =>
  rec sf_11 x1 x2 x3 x4_12)
def fX5_misses_5 : Nat → (Nat → Int32) → Int32 → Int32 → Int32 → Int32 → Option ((Nat → Int32))
  | 0 => fun _ _ _ _ _ => none
  | n + 1 => fX5_misses_5_b (fX5_misses_5 n)

/-- the mirror of X5_misses -/
def fX5_misses (sf : Nat → Int32) (x1 : Int32) (x2 : Int32) (x3 : Int32) : Option ((Nat → Int32)) :=
  fX5_misses_5 KF sf x1 x2 x3 233

def fX5_leaves_15_b (rec : (Nat → Int32) → Int32 → Option ((Nat → Int32))) (sf : Nat → Int32) (x2 : Int32) : Option ((Nat → Int32)) :=
  (if (42 + (4 * (sf 10))) ≤ x2 then
  some (sf)
  else
  chk (x2 + 4) 234 fun j_1 =>
  chk x2 234 fun j_2 =>
  nm (upd sf j_2 (sf j_1)) fun sf_3 =>
  nm (x2 + 1) fun x2_4 =>
  rec sf_3 x2_4)
def fX5_leaves_15 : Nat → (Nat → Int32) → Int32 → Option ((Nat → Int32))
  | 0 => fun _ _ => none
  | n + 1 => fX5_leaves_15_b (fX5_leaves_15 n)

/-- the mirror of X5_leaves -/
def fX5_leaves (sf : Nat → Int32) (x1 : Int32) : Option ((Nat → Int32)) :=
  nm (upd sf 10 ((sf 10) - 1)) fun sf_1 =>
  nm ((42 + (4 * x1))) fun x2_2 =>
  fX5_leaves_15 KF sf_1 x2_2

/-- the mirror of X5_loses -/
def fX5_loses (sf : Nat → Int32) (x1 : Int32) (x2 : Int32) : Option ((Nat → Int32)) :=
  ob1 (fX5_of sf x1 (0 : Int32)) fun r_1 =>
  ob1 (fX5_of sf x1 (1 : Int32)) fun r_3 =>
  ob1 (fX5_misses sf r_1 r_3 x2) fun sf_5 =>
  ob1 (fX5_leaves sf_5 x1) fun sf_7 =>
  some (sf_7)

/-- the mirror of X5_queues -/
def fX5_queues (sf : Nat → Int32) : Option ((Nat → Int32)) :=
  nm ((42 + (4 * (sf 10)))) fun x1_1 =>
  chk x1_1 234 fun j_2 =>
  nm (upd sf j_2 (sf 17)) fun sf_3 =>
  chk (x1_1 + 1) 234 fun j_4 =>
  nm (upd sf_3 j_4 (sf_3 16)) fun sf_5 =>
  chk (26 + (sf_5 16)) 234 fun j_6 =>
  chk (x1_1 + 2) 234 fun j_7 =>
  nm (upd sf_5 j_7 (((sf_5 j_6) + ((sf_5 8) * (sf_5 17))) - ((sf_5 j_6) + ((sf_5 8) * (sf_5 17))) / 256 * 256)) fun sf_8 =>
  chk (x1_1 + 3) 234 fun j_9 =>
  nm (upd sf_8 j_9 0) fun sf_10 =>
  nm (upd sf_10 10 ((sf_10 10) + 1)) fun sf_11 =>
  some (sf_11)

def fX5_firstFresh_2_b (rec : (Nat → Int32) → Int32 → Option (Int32)) (sf : Nat → Int32) (x1 : Int32) : Option (Int32) :=
  (if (sf 10) ≤ x1 then
  some ((-6))
  else
  ob1 (fX5_of sf x1 (3 : Int32)) fun r_1 =>
  (if r_1 = 0 then
  some (x1)
  else
  nm (x1 + 1) fun x1_3 =>
  rec sf x1_3))
def fX5_firstFresh_2 : Nat → (Nat → Int32) → Int32 → Option (Int32)
  | 0 => fun _ _ => none
  | n + 1 => fX5_firstFresh_2_b (fX5_firstFresh_2 n)

/-- the mirror of X5_firstFresh -/
def fX5_firstFresh (sf : Nat → Int32) : Option (Int32) :=
  fX5_firstFresh_2 KF sf 0

def fX5_comes_105 (sf : Nat → Int32) : Option ((Nat → Int32)) :=
  nm (upd sf 18 ((sf 18) + (sf 1))) fun sf_1 =>
  some (sf_1)

def fX5_comes_74 (sf : Nat → Int32) : Option ((Nat → Int32)) :=
  nm (upd sf 16 ((sf 16) + 1)) fun sf_1 =>
  (if (sf_1 16) < (sf_1 4) then
  fX5_comes_105 sf_1
  else
  nm (upd sf_1 16 0) fun sf_2 =>
  nm (upd sf_2 17 ((sf_2 17) + 1)) fun sf_3 =>
  fX5_comes_105 sf_3)

/-- the mirror of X5_comes -/
def fX5_comes (sf : Nat → Int32) : Option ((Nat → Int32)) :=
  nm (upd sf 9 ((sf 9) + 1)) fun sf_1 =>
  (if (sf_1 5) = 1 then
  ob1 (fX5_firstFresh sf_1) fun r_11 =>
  (if (sf_1 3) ≤ (sf_1 10) then
  (if r_11 = (-6) then
  ob1 (fX5_misses sf_1 (sf_1 17) (sf_1 16) (0 : Int32)) fun sf_17 =>
  fX5_comes_74 sf_17
  else
  ob1 (fX5_loses sf_1 r_11 (1 : Int32)) fun sf_13 =>
  ob1 (fX5_queues sf_13) fun sf_15 =>
  fX5_comes_74 sf_15)
  else
  ob1 (fX5_queues sf_1) fun sf_19 =>
  fX5_comes_74 sf_19)
  else
  nm (((-6) : Int32)) fun x1_2 =>
  (if (sf_1 3) ≤ (sf_1 10) then
  (if x1_2 = (-6) then
  ob1 (fX5_misses sf_1 (sf_1 17) (sf_1 16) (0 : Int32)) fun sf_7 =>
  fX5_comes_74 sf_7
  else
  ob1 (fX5_loses sf_1 x1_2 (1 : Int32)) fun sf_3 =>
  ob1 (fX5_queues sf_3) fun sf_5 =>
  fX5_comes_74 sf_5)
  else
  ob1 (fX5_queues sf_1) fun sf_9 =>
  fX5_comes_74 sf_9))

/-- the mirror of X5_isBegin -/
def fX5_isBegin (sf : Nat → Int32) : Option (Int32) :=
  ob1 (fX5_of sf (0 : Int32) (1 : Int32)) fun r_1 =>
  (if r_1 = 0 then
  ob1 (fX5_of sf (0 : Int32) (3 : Int32)) fun r_3 =>
  (if r_3 = 0 then
  some (1)
  else
  some (0))
  else
  some (0))

def fX5_judged_6_b (rec : (Nat → Int32) → Int32 → Int32 → Int32 → Option (Int32)) (sf : Nat → Int32) (x1 : Int32) (x2 : Int32) (x3 : Int32) : Option (Int32) :=
  (if (2 * (sf 4)) ≤ x3 then
  (if x1 = 0 then
  (if x2 = 0 then
  some (1)
  else
  some (0))
  else
  some (2))
  else
  (if x1 = 0 then
  chk ((106 + (3 * x3)) + 1) 234 fun j_7 =>
  (if (sf j_7) = (-6) then
  (if x2 = 0 then
  nm (x3 + 1) fun x3_14 =>
  rec sf 1 0 x3_14
  else
  chk ((106 + (3 * x3)) + 1) 234 fun j_15 =>
  (if (sf j_15) = (sf 107) then
  chk ((106 + (3 * x3)) + 2) 234 fun j_17 =>
  (if (sf j_17) = (x3 / 2) then
  nm (x3 + 1) fun x3_19 =>
  rec sf 1 1 x3_19
  else
  nm (x3 + 1) fun x3_18 =>
  rec sf 1 0 x3_18)
  else
  nm (x3 + 1) fun x3_16 =>
  rec sf 1 0 x3_16))
  else
  (if x2 = 0 then
  nm (x3 + 1) fun x3_8 =>
  rec sf 0 0 x3_8
  else
  chk ((106 + (3 * x3)) + 1) 234 fun j_9 =>
  (if (sf j_9) = (sf 107) then
  chk ((106 + (3 * x3)) + 2) 234 fun j_11 =>
  (if (sf j_11) = (x3 / 2) then
  nm (x3 + 1) fun x3_13 =>
  rec sf 0 1 x3_13
  else
  nm (x3 + 1) fun x3_12 =>
  rec sf 0 0 x3_12)
  else
  nm (x3 + 1) fun x3_10 =>
  rec sf 0 0 x3_10)))
  else
  (if x2 = 0 then
  nm (x3 + 1) fun x3_1 =>
  rec sf 1 0 x3_1
  else
  chk ((106 + (3 * x3)) + 1) 234 fun j_2 =>
  (if (sf j_2) = (sf 107) then
  chk ((106 + (3 * x3)) + 2) 234 fun j_4 =>
  (if (sf j_4) = (x3 / 2) then
  nm (x3 + 1) fun x3_6 =>
  rec sf 1 1 x3_6
  else
  nm (x3 + 1) fun x3_5 =>
  rec sf 1 0 x3_5)
  else
  nm (x3 + 1) fun x3_3 =>
  rec sf 1 0 x3_3))))
def fX5_judged_6 : Nat → (Nat → Int32) → Int32 → Int32 → Int32 → Option (Int32)
  | 0 => fun _ _ _ _ => none
  | n + 1 => fX5_judged_6_b (fX5_judged_6 n)

/-- the mirror of X5_judged -/
def fX5_judged (sf : Nat → Int32) : Option (Int32) :=
  fX5_judged_6 KF sf 0 1 0

def fX5_goesOut_231 (sf : Nat → Int32) : Option ((Nat → Int32)) :=
  nm (upd sf 19 ((sf 19) + (sf 2))) fun sf_1 =>
  some (sf_1)

def fX5_goesOut_185 (sf : Nat → Int32) : Option ((Nat → Int32)) :=
  nm (upd sf 15 ((sf 15) + 1)) fun sf_1 =>
  (if (sf_1 15) < (2 * (sf_1 4)) then
  fX5_goesOut_231 sf_1
  else
  nm (upd sf_1 15 0) fun sf_2 =>
  ob1 (fX5_judged sf_2) fun r_3 =>
  nm (upd sf_2 23 r_3) fun sf_5 =>
  nm ((20 + (sf_5 23))) fun y_6 =>
  chk y_6 234 fun j_7 =>
  chk y_6 234 fun j_8 =>
  nm (upd sf_5 j_8 ((sf_5 j_7) + 1)) fun sf_9 =>
  fX5_goesOut_231 sf_9)

def fX5_goesOut_40 (sf : Nat → Int32) (x1 : Int32) : Option ((Nat → Int32)) :=
  (if (sf 10) ≤ 0 then
  chk (106 + (3 * x1)) 234 fun j_1 =>
  nm (upd sf j_1 (sf 7)) fun sf_2 =>
  chk ((106 + (3 * x1)) + 1) 234 fun j_3 =>
  nm (upd sf_2 j_3 (-6)) fun sf_4 =>
  chk ((106 + (3 * x1)) + 2) 234 fun j_5 =>
  nm (upd sf_4 j_5 (-6)) fun sf_6 =>
  nm (upd sf_6 13 ((sf_6 13) + 1)) fun sf_7 =>
  nm (upd sf_7 14 ((sf_7 14) + 1)) fun sf_8 =>
  fX5_goesOut_185 sf_8
  else
  ob1 (fX5_of sf (0 : Int32) (2 : Int32)) fun r_9 =>
  chk (106 + (3 * x1)) 234 fun j_11 =>
  nm (upd sf j_11 r_9) fun sf_12 =>
  ob1 (fX5_of sf_12 (0 : Int32) (0 : Int32)) fun r_13 =>
  chk ((106 + (3 * x1)) + 1) 234 fun j_15 =>
  nm (upd sf_12 j_15 r_13) fun sf_16 =>
  ob1 (fX5_of sf_16 (0 : Int32) (1 : Int32)) fun r_17 =>
  chk ((106 + (3 * x1)) + 2) 234 fun j_19 =>
  nm (upd sf_16 j_19 r_17) fun sf_20 =>
  nm (upd sf_20 13 ((sf_20 13) + 1)) fun sf_21 =>
  nm (upd sf_21 14 ((sf_21 14) + 0)) fun sf_22 =>
  nm (upd sf_22 45 ((sf_22 45) + 1)) fun sf_23 =>
  (if (sf_23 45) = 2 then
  nm (upd sf_23 11 ((sf_23 11) + 1)) fun sf_24 =>
  ob1 (fX5_leaves sf_24 (0 : Int32)) fun sf_25 =>
  fX5_goesOut_185 sf_25
  else
  fX5_goesOut_185 sf_23))

def fX5_goesOut_5_b (rec : (Nat → Int32) → Int32 → Option ((Nat → Int32))) (sf : Nat → Int32) (x1 : Int32) : Option ((Nat → Int32)) :=
  (if (sf 6) = 1 then
  (if x1 = 0 then
  (if (sf 10) ≤ 0 then
  fX5_goesOut_40 sf x1
  else
  ob1 (fX5_isBegin sf) fun r_1 =>
  (if r_1 = 0 then
  ob1 (fX5_loses sf (0 : Int32) (2 : Int32)) fun sf_3 =>
  rec sf_3 x1
  else
  fX5_goesOut_40 sf x1))
  else
  fX5_goesOut_40 sf x1)
  else
  fX5_goesOut_40 sf x1)
def fX5_goesOut_5 : Nat → (Nat → Int32) → Int32 → Option ((Nat → Int32))
  | 0 => fun _ _ => none
  | n + 1 => fX5_goesOut_5_b (fX5_goesOut_5 n)

/-- the mirror of X5_goesOut -/
def fX5_goesOut (sf : Nat → Int32) : Option ((Nat → Int32)) :=
  nm ((sf 15)) fun x1_1 =>
  fX5_goesOut_5 KF sf x1_1

def fX5_ticks_28 (sf : Nat → Int32) : Option ((Nat → Int32)) :=
  nm (upd sf 0 ((sf 0) + 1)) fun sf_1 =>
  nm (upd sf_1 25 ((sf_1 25) + (sf_1 10))) fun sf_2 =>
  some (sf_2)

def fX5_ticks_14 (sf : Nat → Int32) : Option ((Nat → Int32)) :=
  (if (sf 19) = (sf 0) then
  ob1 (fX5_goesOut sf) fun sf_1 =>
  fX5_ticks_28 sf_1
  else
  fX5_ticks_28 sf)

/-- the mirror of X5_ticks -/
def fX5_ticks (sf : Nat → Int32) : Option ((Nat → Int32)) :=
  (if (sf 18) = (sf 0) then
  ob1 (fX5_comes sf) fun sf_1 =>
  fX5_ticks_14 sf_1
  else
  fX5_ticks_14 sf)

def fX5_passes_2_b (rec : (Nat → Int32) → Int32 → Int32 → Option ((Nat → Int32))) (sf : Nat → Int32) (x1 : Int32) (x2 : Int32) : Option ((Nat → Int32)) :=
  (if x1 ≤ x2 then
  some (sf)
  else
  ob1 (fX5_ticks sf) fun sf_1 =>
  nm (x2 + 1) fun x2_3 =>
  rec sf_1 x1 x2_3)
def fX5_passes_2 : Nat → (Nat → Int32) → Int32 → Int32 → Option ((Nat → Int32))
  | 0 => fun _ _ _ => none
  | n + 1 => fX5_passes_2_b (fX5_passes_2 n)

/-- the mirror of X5_passes -/
def fX5_passes (sf : Nat → Int32) (x1 : Int32) : Option ((Nat → Int32)) :=
  fX5_passes_2 KF sf x1 0

/-- the mirror of X5_isFor -/
def fX5_isFor (x0 : Int32) (x1 : Int32) : Option (Int32) :=
  (if x0 = 0 then
  ob1 (fX5_in x1 (2 : Int32) (99 : Int32)) fun r_1 =>
  nd (r_1 = 0 ∨ r_1 = 1) <|
  some (r_1)
  else
  (if x0 = 1 then
  ob1 (fX5_in x1 (1 : Int32) (99 : Int32)) fun r_3 =>
  nd (r_3 = 0 ∨ r_3 = 1) <|
  some (r_3)
  else
  (if x0 = 2 then
  ob1 (fX5_in x1 (1 : Int32) (16 : Int32)) fun r_5 =>
  nd (r_5 = 0 ∨ r_5 = 1) <|
  some (r_5)
  else
  (if x0 = 3 then
  ob1 (fX5_in x1 (2 : Int32) (16 : Int32)) fun r_7 =>
  nd (r_7 = 0 ∨ r_7 = 1) <|
  some (r_7)
  else
  (if x0 = 4 then
  ob1 (fX5_in x1 (0 : Int32) (1 : Int32)) fun r_9 =>
  nd (r_9 = 0 ∨ r_9 = 1) <|
  some (r_9)
  else
  (if x0 = 5 then
  ob1 (fX5_in x1 (0 : Int32) (1 : Int32)) fun r_11 =>
  nd (r_11 = 0 ∨ r_11 = 1) <|
  some (r_11)
  else
  ob1 (fX5_in x1 (0 : Int32) (255 : Int32)) fun r_13 =>
  nd (r_13 = 0 ∨ r_13 = 1) <|
  some (r_13)))))))

/-- the mirror of X5_mayTell -/
def fX5_mayTell (x0 : Int32) (x1 : Int32) : Option (Int32) :=
  ob1 (fX5_in x0 (0 : Int32) (15 : Int32)) fun r_1 =>
  (if r_1 = 0 then
  some ((-1))
  else
  ob1 (fX5_in x1 (0 : Int32) (255 : Int32)) fun r_3 =>
  (if r_3 = 0 then
  some ((-2))
  else
  some (0)))

/-- the mirror of X5_maySlip -/
def fX5_maySlip (x0 : Int32) (x1 : Int32) : Option (Int32) :=
  ob1 (fX5_in x0 (0 : Int32) (1 : Int32)) fun r_1 =>
  (if r_1 = 0 then
  some ((-2))
  else
  ob1 (fX5_in x1 (1 : Int32) (99 : Int32)) fun r_3 =>
  (if r_3 = 0 then
  some ((-2))
  else
  some (0)))

/-- the mirror of X5_areTicks -/
def fX5_areTicks (x0 : Int32) : Option (Int32) :=
  ob1 (fX5_in x0 (1 : Int32) (999 : Int32)) fun r_1 =>
  nd (r_1 = 0 ∨ r_1 = 1) <|
  some (r_1)

/-- the mirror of X5_byteOf -/
def fX5_byteOf (x0 : Int64) (x2 : Int32) : Option (Int32) :=
  some ((((x0 >>> ((8 * x2).toInt64 &&& 63)) &&& 255).toInt32))

def fX5_toldBy_42_b (rec : Int64 → Int32 → Int32 → Option (Int32)) (x0 : Int64) (x2 : Int32) (x3 : Int32) : Option (Int32) :=
  (if 8 ≤ x3 then
  (if x2 = 0 then
  some ((-2))
  else
  some (x2))
  else
  ob1 (fX5_byteOf x0 x3) fun r_1 =>
  (if r_1 = 0 then
  nm (x3 + 1) fun x3_3 =>
  rec x0 x2 x3_3
  else
  some ((-2))))
def fX5_toldBy_42 : Nat → Int64 → Int32 → Int32 → Option (Int32)
  | 0 => fun _ _ _ => none
  | n + 1 => fX5_toldBy_42_b (fX5_toldBy_42 n)

def fX5_toldBy_2_b (rec : Int64 → Int32 → Option (Int32)) (x0 : Int64) (x2 : Int32) : Option (Int32) :=
  (if 8 ≤ x2 then
  fX5_toldBy_42 KF x0 x2 x2
  else
  ob1 (fX5_byteOf x0 x2) fun r_1 =>
  (if r_1 = 0 then
  fX5_toldBy_42 KF x0 x2 x2
  else
  ob1 (fX5_byteOf x0 x2) fun r_3 =>
  ob1 (fX5_in r_3 (33 : Int32) (126 : Int32)) fun r_5 =>
  (if r_5 = 0 then
  some ((-2))
  else
  nm (x2 + 1) fun x2_7 =>
  rec x0 x2_7)))
def fX5_toldBy_2 : Nat → Int64 → Int32 → Option (Int32)
  | 0 => fun _ _ => none
  | n + 1 => fX5_toldBy_2_b (fX5_toldBy_2 n)

/-- the mirror of X5_toldBy -/
def fX5_toldBy (x0 : Int64) : Option (Int32) :=
  fX5_toldBy_2 KF x0 0

def fX5_records_50 (now : Nat → Int32) (past : Nat → Int32) (kept : Int32) : Option ((Nat → Int32) × Int32) :=
  ob1 (fX5_lays 234 now 1404 past (0 : Int32) (234 * kept)) fun past_1 =>
  nm ((kept + 1)) fun kept_3 =>
  some (past_1, kept_3)

def fX5_records_11_b (rec : (Nat → Int32) → (Nat → Int32) → Int32 → Int32 → Option ((Nat → Int32) × Int32)) (now : Nat → Int32) (past : Nat → Int32) (kept : Int32) (x1 : Int32) : Option ((Nat → Int32) × Int32) :=
  (if 1170 ≤ x1 then
  nm ((kept - 1)) fun kept_1 =>
  fX5_records_50 now past kept_1
  else
  chk (x1 + 234) 1404 fun j_2 =>
  chk x1 1404 fun j_3 =>
  nm (upd past j_3 (past j_2)) fun past_4 =>
  nm (x1 + 1) fun x1_5 =>
  rec now past_4 kept x1_5)
def fX5_records_11 : Nat → (Nat → Int32) → (Nat → Int32) → Int32 → Int32 → Option ((Nat → Int32) × Int32)
  | 0 => fun _ _ _ _ => none
  | n + 1 => fX5_records_11_b (fX5_records_11 n)

/-- the mirror of X5_records -/
def fX5_records (now : Nat → Int32) (past : Nat → Int32) (kept : Int32) : Option ((Nat → Int32) × Int32) :=
  (if kept = 6 then
  fX5_records_11 KF now past kept 0
  else
  fX5_records_50 now past kept)

/-- the mirror of X5_undo -/
def fX5_undo (now : Nat → Int32) (past : Nat → Int32) (kept : Int32) : Option (Int32 × (Nat → Int32) × Int32) :=
  (if kept = 0 then
  some ((-5), now, kept)
  else
  nm ((kept - 1)) fun kept_1 =>
  ob1 (fX5_lays 1404 past 234 now (234 * kept_1) (0 : Int32)) fun now_2 =>
  some (kept_1, now_2, kept_1))

/-- the mirror of X5_save -/
def fX5_save (now : Nat → Int32) (slt : Nat → Int32) (held : Nat → Int32) (x1 : Int32) : Option (Int32 × (Nat → Int32) × (Nat → Int32)) :=
  ob1 (fX5_in x1 (0 : Int32) (1 : Int32)) fun r_1 =>
  (if r_1 = 0 then
  some ((-2), slt, held)
  else
  ob1 (fX5_lays 234 now 468 slt (0 : Int32) (234 * x1)) fun slt_3 =>
  chk x1 2 fun j_5 =>
  nm (upd held j_5 (vp_nar .boolean 1)) fun held_6 =>
  some ((now 0), slt_3, held_6))

/-- the mirror of X5_restore -/
def fX5_restore (now : Nat → Int32) (past : Nat → Int32) (kept : Int32) (slt : Nat → Int32) (held : Nat → Int32) (x1 : Int32) : Option (Int32 × (Nat → Int32) × (Nat → Int32) × Int32) :=
  ob1 (fX5_in x1 (0 : Int32) (1 : Int32)) fun r_1 =>
  (if r_1 = 0 then
  some ((-2), now, past, kept)
  else
  chk x1 2 fun j_3 =>
  (if (held j_3) = 0 then
  some ((-5), now, past, kept)
  else
  ob2 (fX5_records now past kept) fun past_4 kept_5 =>
  ob1 (fX5_lays 468 slt 234 now (234 * x1) (0 : Int32)) fun now_7 =>
  some ((now_7 0), now_7, past_4, kept_5)))

/-- the mirror of X5_changes -/
def fX5_changes (now : Nat → Int32) (x1 : Int32) (x2 : Int32) : Option (Int32 × (Nat → Int32)) :=
  chk x1 234 fun j_1 =>
  nm ((now j_1)) fun x3_2 =>
  chk x1 234 fun j_3 =>
  nm (upd now j_3 x2) fun now_4 =>
  some (x3_2, now_4)

def fX5_set_54 (now : Nat → Int32) (past : Nat → Int32) (kept : Int32) (x1 : Int32) (x2 : Int32) : Option (Int32 × (Nat → Int32) × (Nat → Int32) × Int32) :=
  ob2 (fX5_records now past kept) fun past_1 kept_2 =>
  ob2 (fX5_changes now (1 + x1) x2) fun r_4 now_5 =>
  some (r_4, now_5, past_1, kept_2)

/-- the mirror of X5_set -/
def fX5_set (now : Nat → Int32) (past : Nat → Int32) (kept : Int32) (x1 : Int32) (x2 : Int32) : Option (Int32 × (Nat → Int32) × (Nat → Int32) × Int32) :=
  ob1 (fX5_in x1 (0 : Int32) (7 : Int32)) fun r_1 =>
  (if r_1 = 0 then
  some ((-2), now, past, kept)
  else
  ob1 (fX5_isFor x1 x2) fun r_3 =>
  (if r_3 = 0 then
  some ((-2), now, past, kept)
  else
  (if x1 = 3 then
  (if (now 0) = 0 then
  (if x1 = 2 then
  (if (now 10) ≤ x2 then
  fX5_set_54 now past kept x1 x2
  else
  some ((-5), now, past, kept))
  else
  fX5_set_54 now past kept x1 x2)
  else
  some ((-5), now, past, kept))
  else
  (if x1 = 2 then
  (if (now 10) ≤ x2 then
  fX5_set_54 now past kept x1 x2
  else
  some ((-5), now, past, kept))
  else
  fX5_set_54 now past kept x1 x2))))

/-- the mirror of X5_value -/
def fX5_value (now : Nat → Int32) (past : Nat → Int32) (kept : Int32) (x1 : Int32) (x2 : Int32) : Option (Int32 × (Nat → Int32) × (Nat → Int32) × Int32) :=
  ob1 (fX5_mayTell x1 x2) fun r_1 =>
  (if r_1 = 0 then
  ob2 (fX5_records now past kept) fun past_3 kept_4 =>
  ob2 (fX5_changes now (26 + x1) x2) fun r_6 now_7 =>
  some (r_6, now_7, past_3, kept_4)
  else
  some (r_1, now, past, kept))

/-- the mirror of X5_slips -/
def fX5_slips (now : Nat → Int32) (x1 : Int32) (x2 : Int32) : Option (Int32 × (Nat → Int32)) :=
  nm ((18 + x1)) fun y_1 =>
  chk y_1 234 fun j_2 =>
  chk y_1 234 fun j_3 =>
  nm (upd now j_3 ((now j_2) + x2)) fun now_4 =>
  chk (18 + x1) 234 fun j_5 =>
  some ((now_4 j_5), now_4)

/-- the mirror of X5_slip -/
def fX5_slip (now : Nat → Int32) (past : Nat → Int32) (kept : Int32) (x1 : Int32) (x2 : Int32) : Option (Int32 × (Nat → Int32) × (Nat → Int32) × Int32) :=
  ob1 (fX5_maySlip x1 x2) fun r_1 =>
  (if r_1 = 0 then
  ob2 (fX5_records now past kept) fun past_3 kept_4 =>
  ob2 (fX5_slips now x1 x2) fun r_6 now_7 =>
  some (r_6, now_7, past_3, kept_4)
  else
  some (r_1, now, past, kept))

/-- the mirror of X5_mayPass -/
def fX5_mayPass (now : Nat → Int32) (x1 : Int32) : Option (Int32) :=
  ob1 (fX5_in x1 (1 : Int32) (999 : Int32)) fun r_1 =>
  (if r_1 = 0 then
  some ((-2))
  else
  (if ((now 0) + x1) ≤ 99999 then
  some (0)
  else
  some ((-4))))

/-- the mirror of X5_pass -/
def fX5_pass (now : Nat → Int32) (past : Nat → Int32) (kept : Int32) (x1 : Int32) : Option (Int32 × (Nat → Int32) × (Nat → Int32) × Int32) :=
  ob1 (fX5_mayPass now x1) fun r_1 =>
  (if r_1 = 0 then
  ob2 (fX5_records now past kept) fun past_3 kept_4 =>
  ob1 (fX5_passes now x1) fun now_6 =>
  some ((now_6 0), now_6, past_3, kept_4)
  else
  some (r_1, now, past, kept))

def fX5_flush_12_b (rec : (Nat → Int32) → (Nat → Int32) → Int32 → Int32 → Option (Int32 × (Nat → Int32) × (Nat → Int32) × Int32)) (now : Nat → Int32) (past : Nat → Int32) (kept : Int32) (x1 : Int32) : Option (Int32 × (Nat → Int32) × (Nat → Int32) × Int32) :=
  (if (now 10) ≤ 0 then
  some (x1, now, past, kept)
  else
  ob1 (fX5_loses now (0 : Int32) (2 : Int32)) fun now_1 =>
  rec now_1 past kept x1)
def fX5_flush_12 : Nat → (Nat → Int32) → (Nat → Int32) → Int32 → Int32 → Option (Int32 × (Nat → Int32) × (Nat → Int32) × Int32)
  | 0 => fun _ _ _ _ => none
  | n + 1 => fX5_flush_12_b (fX5_flush_12 n)

/-- the mirror of X5_flush -/
def fX5_flush (now : Nat → Int32) (past : Nat → Int32) (kept : Int32) : Option (Int32 × (Nat → Int32) × (Nat → Int32) × Int32) :=
  ob2 (fX5_records now past kept) fun past_1 kept_2 =>
  nm ((now 10)) fun x1_4 =>
  fX5_flush_12 KF now past_1 kept_2 x1_4

/-- the mirror of X5_waiting -/
def fX5_waiting (now : Nat → Int32) (x1 : Int32) (x2 : Int32) : Option (Int32) :=
  ob1 (fX5_in x1 (0 : Int32) ((now 10) - 1)) fun r_1 =>
  (if r_1 = 0 then
  some ((-1))
  else
  ob1 (fX5_in x2 (0 : Int32) (3 : Int32)) fun r_3 =>
  (if r_3 = 0 then
  some ((-2))
  else
  ob1 (fX5_of now x1 x2) fun r_5 =>
  some (r_5)))

/-- the mirror of X5_row -/
def fX5_row (now : Nat → Int32) (x1 : Int32) (x2 : Int32) : Option (Int32) :=
  ob1 (fX5_in x1 (0 : Int32) ((2 * (now 4)) - 1)) fun r_1 =>
  (if r_1 = 0 then
  some ((-1))
  else
  ob1 (fX5_in x2 (0 : Int32) (2 : Int32)) fun r_3 =>
  (if r_3 = 0 then
  some ((-2))
  else
  chk ((106 + (3 * x1)) + x2) 234 fun j_5 =>
  some ((now j_5))))

/-- the mirror of X5_ofMissing -/
def fX5_ofMissing (now : Nat → Int32) (x1 : Int32) (x2 : Int32) : Option (Int32) :=
  ob1 (fX5_in x1 (0 : Int32) ((now 24) - 1)) fun r_1 =>
  (if r_1 = 0 then
  some ((-1))
  else
  ob1 (fX5_in x2 (0 : Int32) (3 : Int32)) fun r_3 =>
  (if r_3 = 0 then
  some ((-2))
  else
  chk ((202 + (4 * x1)) + x2) 234 fun j_5 =>
  some ((now j_5))))

/-- the mirror of X5_count -/
def fX5_count (now : Nat → Int32) (kept : Int32) (mpl : Int32) (x1 : Int32) : Option (Int32) :=
  ob1 (fX5_in x1 (0 : Int32) (25 : Int32)) fun r_1 =>
  (if r_1 = 0 then
  some ((-2))
  else
  (if 16 ≤ x1 then
  (if 24 ≤ x1 then
  (if x1 = 24 then
  some (mpl)
  else
  some (kept))
  else
  chk ((1 + x1) - 16) 234 fun j_3 =>
  some ((now j_3)))
  else
  (if x1 = 0 then
  some ((now 0))
  else
  chk ((9 + x1) - 1) 234 fun j_4 =>
  some ((now j_4)))))

def fX5_shown_2_b (rec : (Nat → Int32) → Int32 → Option (Int32)) (now : Nat → Int32) (x1 : Int32) : Option (Int32) :=
  (if (2 * (now 4)) ≤ x1 then
  some (x1)
  else
  chk ((106 + (3 * x1)) + 1) 234 fun j_1 =>
  (if (now j_1) = (-6) then
  some (x1)
  else
  nm (x1 + 1) fun x1_2 =>
  rec now x1_2))
def fX5_shown_2 : Nat → (Nat → Int32) → Int32 → Option (Int32)
  | 0 => fun _ _ => none
  | n + 1 => fX5_shown_2_b (fX5_shown_2 n)

/-- the mirror of X5_shown -/
def fX5_shown (now : Nat → Int32) : Option (Int32) :=
  fX5_shown_2 KF now 0

/-- the mirror of X5_tries -/
def fX5_tries (now : Nat → Int32) (thn : Nat → Int32) : Option ((Nat → Int32)) :=
  ob1 (fX5_lays 234 now 234 thn (0 : Int32) (0 : Int32)) fun thn_1 =>
  some (thn_1)

/-- the mirror of X5_more -/
def fX5_more (now : Nat → Int32) (thn : Nat → Int32) (x1 : Int32) : Option (Int32) :=
  (if x1 = 0 then
  some (((thn 12) - (now 12)))
  else
  (if x1 = 1 then
  some (((thn 14) - (now 14)))
  else
  some (((thn 20) - (now 20)))))

/-- the mirror of X5_would -/
def fX5_would (now : Nat → Int32) (thn : Nat → Int32) (x1 : Int32) (x2 : Int32) : Option (Int32 × (Nat → Int32)) :=
  ob1 (fX5_areTicks x1) fun r_1 =>
  (if r_1 = 0 then
  some ((-2), thn)
  else
  ob1 (fX5_in x2 (0 : Int32) (2 : Int32)) fun r_3 =>
  (if r_3 = 0 then
  some ((-2), thn)
  else
  ob1 (fX5_tries now thn) fun thn_5 =>
  ob1 (fX5_passes thn_5 x1) fun thn_7 =>
  ob1 (fX5_more now thn_7 x2) fun r_9 =>
  some (r_9, thn_7)))

def fX5_leastRoom_33_b (rec : (Nat → Int32) → (Nat → Int32) → Int32 → Int32 → Option (Int32 × (Nat → Int32))) (now : Nat → Int32) (thn : Nat → Int32) (x1 : Int32) (x2 : Int32) : Option (Int32 × (Nat → Int32)) :=
  (if 16 < x2 then
  some ((-6), thn)
  else
  ob1 (fX5_tries now thn) fun thn_1 =>
  nm (upd thn_1 3 x2) fun thn_3 =>
  ob1 (fX5_passes thn_3 x1) fun thn_4 =>
  ob1 (fX5_more now thn_4 (0 : Int32)) fun r_6 =>
  (if r_6 = 0 then
  some (x2, thn_4)
  else
  nm (x2 + 1) fun x2_8 =>
  rec now thn_4 x1 x2_8))
def fX5_leastRoom_33 : Nat → (Nat → Int32) → (Nat → Int32) → Int32 → Int32 → Option (Int32 × (Nat → Int32))
  | 0 => fun _ _ _ _ => none
  | n + 1 => fX5_leastRoom_33_b (fX5_leastRoom_33 n)

/-- the mirror of X5_leastRoom -/
def fX5_leastRoom (now : Nat → Int32) (thn : Nat → Int32) (x1 : Int32) : Option (Int32 × (Nat → Int32)) :=
  ob1 (fX5_areTicks x1) fun r_1 =>
  (if r_1 = 0 then
  some ((-2), thn)
  else
  (if (now 10) ≤ 1 then
  fX5_leastRoom_33 KF now thn x1 1
  else
  nm ((now 10)) fun x2_3 =>
  fX5_leastRoom_33 KF now thn x1 x2_3))

def fX5_bestOut_27_b (rec : (Nat → Int32) → (Nat → Int32) → Int32 → Int32 → Int32 → Int32 → Int32 → Option (Int32 × (Nat → Int32))) (now : Nat → Int32) (thn : Nat → Int32) (x1 : Int32) (x2 : Int32) (x3 : Int32) (x4 : Int32) (x5 : Int32) : Option (Int32 × (Nat → Int32)) :=
  (if 99 < x5 then
  (if x2 = 0 then
  some (x3, thn)
  else
  some (x4, thn))
  else
  ob1 (fX5_tries now thn) fun thn_1 =>
  nm (upd thn_1 2 x5) fun thn_3 =>
  ob1 (fX5_passes thn_3 x1) fun thn_4 =>
  ob1 (fX5_more now thn_4 (0 : Int32)) fun r_6 =>
  ob1 (fX5_more now thn_4 (1 : Int32)) fun r_8 =>
  nm ((r_6 + r_8)) fun x6_10 =>
  (if x3 = 0 then
  nm (x5 + 1) fun x5_11 =>
  rec now thn_4 x1 x2 x5 x6_10 x5_11
  else
  (if x4 ≤ x6_10 then
  nm (x5 + 1) fun x5_12 =>
  rec now thn_4 x1 x2 x3 x4 x5_12
  else
  nm (x5 + 1) fun x5_13 =>
  rec now thn_4 x1 x2 x5 x6_10 x5_13)))
def fX5_bestOut_27 : Nat → (Nat → Int32) → (Nat → Int32) → Int32 → Int32 → Int32 → Int32 → Int32 → Option (Int32 × (Nat → Int32))
  | 0 => fun _ _ _ _ _ _ _ => none
  | n + 1 => fX5_bestOut_27_b (fX5_bestOut_27 n)

/-- the mirror of X5_bestOut -/
def fX5_bestOut (now : Nat → Int32) (thn : Nat → Int32) (x1 : Int32) (x2 : Int32) : Option (Int32 × (Nat → Int32)) :=
  ob1 (fX5_areTicks x1) fun r_1 =>
  (if r_1 = 0 then
  some ((-2), thn)
  else
  ob1 (fX5_in x2 (0 : Int32) (1 : Int32)) fun r_3 =>
  (if r_3 = 0 then
  some ((-2), thn)
  else
  fX5_bestOut_27 KF now thn x1 x2 0 0 1))

def fX5_put_30_b (rec : (Nat → Int32) → Int32 → Int64 → Int32 → Option (Int32 × (Nat → Int32) × Int32)) (mpad : Nat → Int32) (mpl : Int32) (x1 : Int64) (x4 : Int32) : Option (Int32 × (Nat → Int32) × Int32) :=
  (if x4 < 0 then
  some (mpl, mpad, mpl)
  else
  ob1 (fX5_byteOf x1 x4) fun r_1 =>
  chk mpl 80 fun j_3 =>
  nm (upd mpad j_3 r_1) fun mpad_4 =>
  nm ((mpl + 1)) fun mpl_5 =>
  nm (x4 + (-1)) fun x4_6 =>
  rec mpad_4 mpl_5 x1 x4_6)
def fX5_put_30 : Nat → (Nat → Int32) → Int32 → Int64 → Int32 → Option (Int32 × (Nat → Int32) × Int32)
  | 0 => fun _ _ _ _ => none
  | n + 1 => fX5_put_30_b (fX5_put_30 n)

/-- the mirror of X5_put -/
def fX5_put (mpad : Nat → Int32) (mpl : Int32) (x1 : Int64) : Option (Int32 × (Nat → Int32) × Int32) :=
  ob1 (fX5_toldBy x1) fun r_1 =>
  (if 0 ≤ r_1 then
  (if (mpl + r_1) ≤ 80 then
  nm ((r_1 - 1)) fun x4_3 =>
  fX5_put_30 KF mpad mpl x1 x4_3
  else
  some ((-4), mpad, mpl))
  else
  some (r_1, mpad, mpl))

/-- the mirror of X5_wipe -/
def fX5_wipe (mpl : Int32) : Option (Int32 × Int32) :=
  some (mpl, 0)

/-- the mirror of X5_isAt -/
def fX5_isAt (mpad : Nat → Int32) (mpl : Int32) (mat : Int32) (x1 : Int32) (x2 : Int32) : Option (Int32) :=
  (if mpl ≤ mat then
  some (0)
  else
  chk mat 80 fun j_1 =>
  ob1 (fX5_in (mpad j_1) x1 x2) fun r_2 =>
  (if r_2 = 0 then
  some (0)
  else
  some (1)))

/-- the mirror of X5_isSign -/
def fX5_isSign (mpad : Nat → Int32) (mpl : Int32) (mat : Int32) (x1 : Int32) : Option (Int32 × Int32) :=
  ob1 (fX5_isAt mpad mpl mat x1 x1) fun r_1 =>
  (if r_1 = 0 then
  nm ((mat + 0)) fun mat_3 =>
  nd (r_1 = 0 ∨ r_1 = 1) <|
  some (r_1, mat_3)
  else
  nm ((mat + 1)) fun mat_4 =>
  nd (r_1 = 0 ∨ r_1 = 1) <|
  some (r_1, mat_4))

def fX5_isNumber_36_b (rec : (Nat → Int32) → Int32 → Int32 → (Nat → Int32) → Int32 → Int32 → Int32 → Option (Int32 × Int32 × (Nat → Int32))) (mpad : Nat → Int32) (mpl : Int32) (mat : Int32) (ords : Nat → Int32) (ordn : Int32) (x1 : Int32) (x2 : Int32) : Option (Int32 × Int32 × (Nat → Int32)) :=
  (if x2 ≤ 0 then
  chk ((3 * ordn) + x1) 123 fun j_1 =>
  nm (upd ords j_1 x2) fun ords_2 =>
  some (1, mat, ords_2)
  else
  (if 100 ≤ x2 then
  chk ((3 * ordn) + x1) 123 fun j_3 =>
  nm (upd ords j_3 x2) fun ords_4 =>
  some (1, mat, ords_4)
  else
  ob1 (fX5_isAt mpad mpl mat (48 : Int32) (57 : Int32)) fun r_5 =>
  (if r_5 = 0 then
  chk ((3 * ordn) + x1) 123 fun j_7 =>
  nm (upd ords j_7 x2) fun ords_8 =>
  some (1, mat, ords_8)
  else
  chk mat 80 fun j_9 =>
  nm ((((10 * x2) + (mpad j_9)) - 48)) fun x2_10 =>
  nm ((mat + 1)) fun mat_11 =>
  rec mpad mpl mat_11 ords ordn x1 x2_10)))
def fX5_isNumber_36 : Nat → (Nat → Int32) → Int32 → Int32 → (Nat → Int32) → Int32 → Int32 → Int32 → Option (Int32 × Int32 × (Nat → Int32))
  | 0 => fun _ _ _ _ _ _ _ => none
  | n + 1 => fX5_isNumber_36_b (fX5_isNumber_36 n)

/-- the mirror of X5_isNumber -/
def fX5_isNumber (mpad : Nat → Int32) (mpl : Int32) (mat : Int32) (ords : Nat → Int32) (ordn : Int32) (x1 : Int32) : Option (Int32 × Int32 × (Nat → Int32)) :=
  ob1 (fX5_isAt mpad mpl mat (48 : Int32) (57 : Int32)) fun r_1 =>
  (if r_1 = 0 then
  some (0, mat, ords)
  else
  chk mat 80 fun j_3 =>
  nm (((mpad j_3) - 48)) fun x2_4 =>
  nm ((mat + 1)) fun mat_5 =>
  fX5_isNumber_36 KF mpad mpl mat_5 ords ordn x1 x2_4)

/-- the mirror of X5_isOrder -/
def fX5_isOrder (mpad : Nat → Int32) (mpl : Int32) (mat : Int32) (ords : Nat → Int32) (ordn : Int32) : Option (Int32 × Int32 × (Nat → Int32)) :=
  (if mpl ≤ mat then
  chk (3 * ordn) 123 fun j_1 =>
  nm (upd ords j_1 0) fun ords_2 =>
  some (0, mat, ords_2)
  else
  chk mat 80 fun j_3 =>
  nm ((mpad j_3)) fun x1_4 =>
  chk (3 * ordn) 123 fun j_5 =>
  nm (upd ords j_5 x1_4) fun ords_6 =>
  (if x1_4 = 60 then
  nm ((mat + 1)) fun mat_7 =>
  ob3 (fX5_isNumber mpad mpl mat_7 ords_6 ordn (1 : Int32)) fun r_8 mat_9 ords_10 =>
  nd (r_8 = 0 ∨ r_8 = 1) <|
  some (r_8, mat_9, ords_10)
  else
  (if x1_4 = 62 then
  nm ((mat + 1)) fun mat_12 =>
  ob3 (fX5_isNumber mpad mpl mat_12 ords_6 ordn (1 : Int32)) fun r_13 mat_14 ords_15 =>
  nd (r_13 = 0 ∨ r_13 = 1) <|
  some (r_13, mat_14, ords_15)
  else
  (if x1_4 = 105 then
  nm ((mat + 1)) fun mat_17 =>
  ob3 (fX5_isNumber mpad mpl mat_17 ords_6 ordn (1 : Int32)) fun r_18 mat_19 ords_20 =>
  nd (r_18 = 0 ∨ r_18 = 1) <|
  some (r_18, mat_19, ords_20)
  else
  (if x1_4 = 111 then
  nm ((mat + 1)) fun mat_22 =>
  ob3 (fX5_isNumber mpad mpl mat_22 ords_6 ordn (1 : Int32)) fun r_23 mat_24 ords_25 =>
  nd (r_23 = 0 ∨ r_23 = 1) <|
  some (r_23, mat_24, ords_25)
  else
  (if x1_4 = 116 then
  nm ((mat + 1)) fun mat_27 =>
  ob3 (fX5_isNumber mpad mpl mat_27 ords_6 ordn (1 : Int32)) fun r_28 mat_29 ords_30 =>
  nd (r_28 = 0 ∨ r_28 = 1) <|
  some (r_28, mat_29, ords_30)
  else
  (if x1_4 = 118 then
  nm ((mat + 1)) fun mat_32 =>
  ob3 (fX5_isNumber mpad mpl mat_32 ords_6 ordn (1 : Int32)) fun r_33 mat_34 ords_35 =>
  (if r_33 = 0 then
  some (0, mat_34, ords_35)
  else
  ob2 (fX5_isSign mpad mpl mat_34 (61 : Int32)) fun r_37 mat_38 =>
  (if r_37 = 0 then
  some (0, mat_38, ords_35)
  else
  ob3 (fX5_isNumber mpad mpl mat_38 ords_35 ordn (2 : Int32)) fun r_40 mat_41 ords_42 =>
  (if r_40 = 0 then
  some (0, mat_41, ords_42)
  else
  some (1, mat_41, ords_42))))
  else
  some (0, mat, ords_6))))))))

def fX5_isText_12_b (rec : (Nat → Int32) → Int32 → Int32 → (Nat → Int32) → Int32 → Int32 → Option (Int32 × Int32 × (Nat → Int32) × Int32)) (mpad : Nat → Int32) (mpl : Int32) (mat : Int32) (ords : Nat → Int32) (ordn : Int32) (x1 : Int32) : Option (Int32 × Int32 × (Nat → Int32) × Int32) :=
  (if x1 = 0 then
  (if mat = mpl then
  some (1, mat, ords, ordn)
  else
  some (0, mat, ords, ordn))
  else
  ob3 (fX5_isOrder mpad mpl mat ords ordn) fun r_1 mat_2 ords_3 =>
  (if r_1 = 0 then
  some (0, mat_2, ords_3, ordn)
  else
  nm ((ordn + 1)) fun ordn_5 =>
  ob2 (fX5_isSign mpad mpl mat_2 (59 : Int32)) fun r_6 mat_7 =>
  rec mpad mpl mat_7 ords_3 ordn_5 r_6))
def fX5_isText_12 : Nat → (Nat → Int32) → Int32 → Int32 → (Nat → Int32) → Int32 → Int32 → Option (Int32 × Int32 × (Nat → Int32) × Int32)
  | 0 => fun _ _ _ _ _ _ => none
  | n + 1 => fX5_isText_12_b (fX5_isText_12 n)

/-- the mirror of X5_isText -/
def fX5_isText (mpad : Nat → Int32) (mpl : Int32) (mat : Int32) (ords : Nat → Int32) (ordn : Int32) : Option (Int32 × Int32 × (Nat → Int32) × Int32) :=
  fX5_isText_12 KF mpad mpl 0 ords 0 1

/-- the mirror of X5_fault -/
def fX5_fault (mpad : Nat → Int32) (mpl : Int32) (mat : Int32) (ords : Nat → Int32) (ordn : Int32) : Option (Int32 × Int32 × (Nat → Int32) × Int32) :=
  ob4 (fX5_isText mpad mpl mat ords ordn) fun r_1 mat_2 ords_3 ordn_4 =>
  (if r_1 = 0 then
  some (mat_2, mat_2, ords_3, ordn_4)
  else
  some ((-6), mat_2, ords_3, ordn_4))

/-- the mirror of X5_mayDo -/
def fX5_mayDo (now : Nat → Int32) (x1 : Int32) (x2 : Int32) (x3 : Int32) : Option (Int32) :=
  (if x1 = 105 then
  (if x1 = 105 then
  ob1 (fX5_isFor (0 : Int32) x2) fun r_3 =>
  (if r_3 = 0 then
  some ((-2))
  else
  some (0))
  else
  ob1 (fX5_isFor (1 : Int32) x2) fun r_1 =>
  (if r_1 = 0 then
  some ((-2))
  else
  some (0)))
  else
  (if x1 = 111 then
  (if x1 = 105 then
  ob1 (fX5_isFor (0 : Int32) x2) fun r_7 =>
  (if r_7 = 0 then
  some ((-2))
  else
  some (0))
  else
  ob1 (fX5_isFor (1 : Int32) x2) fun r_5 =>
  (if r_5 = 0 then
  some ((-2))
  else
  some (0)))
  else
  (if x1 = 116 then
  ob1 (fX5_mayPass now x2) fun r_9 =>
  some (r_9)
  else
  (if x1 = 118 then
  ob1 (fX5_mayTell x2 x3) fun r_11 =>
  some (r_11)
  else
  ob1 (fX5_maySlip (0 : Int32) x2) fun r_13 =>
  some (r_13)))))

/-- the mirror of X5_does -/
def fX5_does (now : Nat → Int32) (ords : Nat → Int32) (x1 : Int32) : Option (Int32 × (Nat → Int32)) :=
  chk (3 * x1) 123 fun j_1 =>
  nm ((ords j_1)) fun x2_2 =>
  chk ((3 * x1) + 1) 123 fun j_3 =>
  nm ((ords j_3)) fun x3_4 =>
  chk ((3 * x1) + 2) 123 fun j_5 =>
  nm ((ords j_5)) fun x4_6 =>
  ob1 (fX5_mayDo now x2_2 x3_4 x4_6) fun r_7 =>
  (if r_7 = 0 then
  (if x2_2 = 105 then
  (if x2_2 = 105 then
  ob2 (fX5_changes now ((1 : Int32) + 0) x3_4) fun r_12 now_13 =>
  some (1, now_13)
  else
  ob2 (fX5_changes now ((1 : Int32) + 1) x3_4) fun r_9 now_10 =>
  some (1, now_10))
  else
  (if x2_2 = 111 then
  (if x2_2 = 105 then
  ob2 (fX5_changes now ((1 : Int32) + 0) x3_4) fun r_18 now_19 =>
  some (1, now_19)
  else
  ob2 (fX5_changes now ((1 : Int32) + 1) x3_4) fun r_15 now_16 =>
  some (1, now_16))
  else
  (if x2_2 = 116 then
  ob1 (fX5_passes now x3_4) fun now_21 =>
  some (1, now_21)
  else
  (if x2_2 = 118 then
  ob2 (fX5_changes now (26 + x3_4) x4_6) fun r_23 now_24 =>
  some (1, now_24)
  else
  (if x2_2 = 60 then
  ob2 (fX5_slips now (0 : Int32) x3_4) fun r_29 now_30 =>
  some (1, now_30)
  else
  ob2 (fX5_slips now (1 : Int32) x3_4) fun r_26 now_27 =>
  some (1, now_27))))))
  else
  some (0, now))

def fX5_carryOut_21_b (rec : (Nat → Int32) → (Nat → Int32) → Int32 → (Nat → Int32) → Int32 → Int32 → (Nat → Int32) → Int32 → Int32 → Option (Int32 × (Nat → Int32) × (Nat → Int32) × Int32 × Int32 × Int32 × (Nat → Int32) × Int32)) (now : Nat → Int32) (past : Nat → Int32) (kept : Int32) (mpad : Nat → Int32) (mpl : Int32) (mat : Int32) (ords : Nat → Int32) (ordn : Int32) (x1 : Int32) : Option (Int32 × (Nat → Int32) × (Nat → Int32) × Int32 × Int32 × Int32 × (Nat → Int32) × Int32) :=
  (if ordn ≤ x1 then
  some (x1, now, past, kept, mpl, mat, ords, ordn)
  else
  ob2 (fX5_does now ords x1) fun r_1 now_2 =>
  (if r_1 = 0 then
  some (x1, now_2, past, kept, mpl, mat, ords, ordn)
  else
  nm (x1 + 1) fun x1_4 =>
  rec now_2 past kept mpad mpl mat ords ordn x1_4))
def fX5_carryOut_21 : Nat → (Nat → Int32) → (Nat → Int32) → Int32 → (Nat → Int32) → Int32 → Int32 → (Nat → Int32) → Int32 → Int32 → Option (Int32 × (Nat → Int32) × (Nat → Int32) × Int32 × Int32 × Int32 × (Nat → Int32) × Int32)
  | 0 => fun _ _ _ _ _ _ _ _ _ => none
  | n + 1 => fX5_carryOut_21_b (fX5_carryOut_21 n)

/-- the mirror of X5_carryOut -/
def fX5_carryOut (now : Nat → Int32) (past : Nat → Int32) (kept : Int32) (mpad : Nat → Int32) (mpl : Int32) (mat : Int32) (ords : Nat → Int32) (ordn : Int32) : Option (Int32 × (Nat → Int32) × (Nat → Int32) × Int32 × Int32 × Int32 × (Nat → Int32) × Int32) :=
  ob4 (fX5_isText mpad mpl mat ords ordn) fun r_1 mat_2 ords_3 ordn_4 =>
  (if r_1 = 0 then
  some ((-3), now, past, kept, mpl, mat_2, ords_3, ordn_4)
  else
  ob2 (fX5_records now past kept) fun past_6 kept_7 =>
  fX5_carryOut_21 KF now past_6 kept_7 mpad 0 mat_2 ords_3 ordn_4 0)

