/-- the mirror of X5_in -/
def fX5_in (x0 : Int32) (x1 : Int32) (x2 : Int32) : Option (Int32) :=
  (if x0 < x1 then
  some (0)
  else
  (if x2 < x0 then
  some (0)
  else
  some (1)))

def fX5_lays_3_b (rec : Nat → (Nat → Int32) → Nat → (Nat → Int32) → Int32 → Int32 → Int32 → Option ((Nat → Int32))) (un : Nat) (uf : Nat → Int32) (vn : Nat) (vf : Nat → Int32) (x1 : Int32) (x3 : Int32) (x4 : Int32) : Option ((Nat → Int32)) :=
  (if 234 ≤ x4 then
  some (vf)
  else
  chk (x1 + x4) un fun j_1 =>
  chk (x3 + x4) vn fun j_2 =>
  nm (upd vf j_2 (uf j_1)) fun vf_3 =>
  nm (x4 + 1) fun x4_4 =>
  rec un uf vn vf_3 x1 x3 x4_4)
def fX5_lays_3 : Nat → Nat → (Nat → Int32) → Nat → (Nat → Int32) → Int32 → Int32 → Int32 → Option ((Nat → Int32))
  | 0 => fun _ _ _ _ _ _ _ => none
  | n + 1 => fX5_lays_3_b (fX5_lays_3 n)

/-- the mirror of X5_lays -/
def fX5_lays (un : Nat) (uf : Nat → Int32) (vn : Nat) (vf : Nat → Int32) (x1 : Int32) (x3 : Int32) : Option ((Nat → Int32)) :=
  fX5_lays_3 KF un uf vn vf x1 x3 0

/-- the mirror of X5_of -/
def fX5_of (sf : Nat → Int32) (x1 : Int32) (x2 : Int32) : Option (Int32) :=
  chk ((42 + (4 * x1)) + x2) 234 fun j_1 =>
  some ((sf j_1))

def fX5_misses_5_b (rec : (Nat → Int32) → Int32 → Int32 → Int32 → Int32 → Option ((Nat → Int32))) (sf : Nat → Int32) (x1 : Int32) (x2 : Int32) (x3 : Int32) (x4 : Int32) : Option ((Nat → Int32)) :=
  (if x4 < 206 then
  nm (upd sf 202 x1) fun sf_1 =>
  nm (upd sf_1 203 x2) fun sf_2 =>
  nm (upd sf_2 204 x3) fun sf_3 =>
  nm (upd sf_3 205 (sf_3 0)) fun sf_4 =>
  (if 8 ≤ (sf_4 24) then
  nm (upd sf_4 24 ((sf_4 24) + 0)) fun sf_5 =>
  nm (upd sf_5 12 ((sf_5 12) + 1)) fun sf_6 =>
  some (sf_6)
  else
  nm (upd sf_4 24 ((sf_4 24) + 1)) fun sf_7 =>
  nm (upd sf_7 12 ((sf_7 12) + 1)) fun sf_8 =>
  some (sf_8))
  else
  chk (x4 - 4) 234 fun j_9 =>
  chk x4 234 fun j_10 =>
  nm (upd sf j_10 (sf j_9)) fun sf_11 =>
  nm (x4 + (-1)) fun x4_12 =>
  rec sf_11 x1 x2 x3 x4_12)
def fX5_misses_5 : Nat → (Nat → Int32) → Int32 → Int32 → Int32 → Int32 → Option ((Nat → Int32))
  | 0 => fun _ _ _ _ _ => none
  | n + 1 => fX5_misses_5_b (fX5_misses_5 n)

/-- the mirror of X5_misses -/
def fX5_misses (sf : Nat → Int32) (x1 : Int32) (x2 : Int32) (x3 : Int32) : Option ((Nat → Int32)) :=
  fX5_misses_5 KF sf x1 x2 x3 233

def fX5_leaves_15_b (rec : (Nat → Int32) → Int32 → Option ((Nat → Int32))) (sf : Nat → Int32) (x2 : Int32) : Option ((Nat → Int32)) :=
  (if (42 + (4 * (sf 10))) ≤ x2 then
  some (sf)
  else
  chk (x2 + 4) 234 fun j_1 =>
  chk x2 234 fun j_2 =>
  nm (upd sf j_2 (sf j_1)) fun sf_3 =>
  nm (x2 + 1) fun x2_4 =>
  rec sf_3 x2_4)
def fX5_leaves_15 : Nat → (Nat → Int32) → Int32 → Option ((Nat → Int32))
  | 0 => fun _ _ => none
  | n + 1 => fX5_leaves_15_b (fX5_leaves_15 n)

/-- the mirror of X5_leaves -/
def fX5_leaves (sf : Nat → Int32) (x1 : Int32) : Option ((Nat → Int32)) :=
  nm (upd sf 10 ((sf 10) - 1)) fun sf_1 =>
  nm ((42 + (4 * x1))) fun x2_2 =>
  fX5_leaves_15 KF sf_1 x2_2

/-- the mirror of X5_loses -/
def fX5_loses (sf : Nat → Int32) (x1 : Int32) (x2 : Int32) : Option ((Nat → Int32)) :=
  ob1 (fX5_of sf x1 (0 : Int32)) fun r_1 =>
  ob1 (fX5_of sf x1 (1 : Int32)) fun r_3 =>
  ob1 (fX5_misses sf r_1 r_3 x2) fun sf_5 =>
  ob1 (fX5_leaves sf_5 x1) fun sf_7 =>
  some (sf_7)

/-- the mirror of X5_queues -/
def fX5_queues (sf : Nat → Int32) : Option ((Nat → Int32)) :=
  nm ((42 + (4 * (sf 10)))) fun x1_1 =>
  chk x1_1 234 fun j_2 =>
  nm (upd sf j_2 (sf 17)) fun sf_3 =>
  chk (x1_1 + 1) 234 fun j_4 =>
  nm (upd sf_3 j_4 (sf_3 16)) fun sf_5 =>
  chk (26 + (sf_5 16)) 234 fun j_6 =>
  chk (x1_1 + 2) 234 fun j_7 =>
  nm (upd sf_5 j_7 (((sf_5 j_6) + ((sf_5 8) * (sf_5 17))) - ((sf_5 j_6) + ((sf_5 8) * (sf_5 17))) / 256 * 256)) fun sf_8 =>
  chk (x1_1 + 3) 234 fun j_9 =>
  nm (upd sf_8 j_9 0) fun sf_10 =>
  nm (upd sf_10 10 ((sf_10 10) + 1)) fun sf_11 =>
  some (sf_11)

def fX5_firstFresh_2_b (rec : (Nat → Int32) → Int32 → Option (Int32)) (sf : Nat → Int32) (x1 : Int32) : Option (Int32) :=
  (if (sf 10) ≤ x1 then
  some ((-6))
  else
  ob1 (fX5_of sf x1 (3 : Int32)) fun r_1 =>
  (if r_1 = 0 then
  some (x1)
  else
  nm (x1 + 1) fun x1_3 =>
  rec sf x1_3))
def fX5_firstFresh_2 : Nat → (Nat → Int32) → Int32 → Option (Int32)
  | 0 => fun _ _ => none
  | n + 1 => fX5_firstFresh_2_b (fX5_firstFresh_2 n)

/-- the mirror of X5_firstFresh -/
def fX5_firstFresh (sf : Nat → Int32) : Option (Int32) :=
  fX5_firstFresh_2 KF sf 0

def fX5_comes_105 (sf : Nat → Int32) : Option ((Nat → Int32)) :=
  nm (upd sf 18 ((sf 18) + (sf 1))) fun sf_1 =>
  some (sf_1)

def fX5_comes_74 (sf : Nat → Int32) : Option ((Nat → Int32)) :=
  nm (upd sf 16 ((sf 16) + 1)) fun sf_1 =>
  (if (sf_1 16) < (sf_1 4) then
  fX5_comes_105 sf_1
  else
  nm (upd sf_1 16 0) fun sf_2 =>
  nm (upd sf_2 17 ((sf_2 17) + 1)) fun sf_3 =>
  fX5_comes_105 sf_3)

/-- the mirror of X5_comes -/
def fX5_comes (sf : Nat → Int32) : Option ((Nat → Int32)) :=
  nm (upd sf 9 ((sf 9) + 1)) fun sf_1 =>
  (if (sf_1 5) = 1 then
  ob1 (fX5_firstFresh sf_1) fun r_11 =>
  (if (sf_1 3) ≤ (sf_1 10) then
  (if r_11 = (-6) then
  ob1 (fX5_misses sf_1 (sf_1 17) (sf_1 16) (0 : Int32)) fun sf_17 =>
  fX5_comes_74 sf_17
  else
  ob1 (fX5_loses sf_1 r_11 (1 : Int32)) fun sf_13 =>
  ob1 (fX5_queues sf_13) fun sf_15 =>
  fX5_comes_74 sf_15)
  else
  ob1 (fX5_queues sf_1) fun sf_19 =>
  fX5_comes_74 sf_19)
  else
  nm (((-6) : Int32)) fun x1_2 =>
  (if (sf_1 3) ≤ (sf_1 10) then
  (if x1_2 = (-6) then
  ob1 (fX5_misses sf_1 (sf_1 17) (sf_1 16) (0 : Int32)) fun sf_7 =>
  fX5_comes_74 sf_7
  else
  ob1 (fX5_loses sf_1 x1_2 (1 : Int32)) fun sf_3 =>
  ob1 (fX5_queues sf_3) fun sf_5 =>
  fX5_comes_74 sf_5)
  else
  ob1 (fX5_queues sf_1) fun sf_9 =>
  fX5_comes_74 sf_9))

/-- the mirror of X5_isBegin -/
def fX5_isBegin (sf : Nat → Int32) : Option (Int32) :=
  ob1 (fX5_of sf (0 : Int32) (1 : Int32)) fun r_1 =>
  (if r_1 = 0 then
  ob1 (fX5_of sf (0 : Int32) (3 : Int32)) fun r_3 =>
  (if r_3 = 0 then
  some (1)
  else
  some (0))
  else
  some (0))

def fX5_judged_6_b (rec : (Nat → Int32) → Int32 → Int32 → Int32 → Option (Int32)) (sf : Nat → Int32) (x1 : Int32) (x2 : Int32) (x3 : Int32) : Option (Int32) :=
  (if (2 * (sf 4)) ≤ x3 then
  (if x1 = 0 then
  (if x2 = 0 then
  some (1)
  else
  some (0))
  else
  some (2))
  else
  (if x1 = 0 then
  chk ((106 + (3 * x3)) + 1) 234 fun j_7 =>
  (if (sf j_7) = (-6) then
  (if x2 = 0 then
  nm (x3 + 1) fun x3_14 =>
  rec sf 1 0 x3_14
  else
  chk ((106 + (3 * x3)) + 1) 234 fun j_15 =>
  (if (sf j_15) = (sf 107) then
  chk ((106 + (3 * x3)) + 2) 234 fun j_17 =>
  (if (sf j_17) = (x3 / 2) then
  nm (x3 + 1) fun x3_19 =>
  rec sf 1 1 x3_19
  else
  nm (x3 + 1) fun x3_18 =>
  rec sf 1 0 x3_18)
  else
  nm (x3 + 1) fun x3_16 =>
  rec sf 1 0 x3_16))
  else
  (if x2 = 0 then
  nm (x3 + 1) fun x3_8 =>
  rec sf 0 0 x3_8
  else
  chk ((106 + (3 * x3)) + 1) 234 fun j_9 =>
  (if (sf j_9) = (sf 107) then
  chk ((106 + (3 * x3)) + 2) 234 fun j_11 =>
  (if (sf j_11) = (x3 / 2) then
  nm (x3 + 1) fun x3_13 =>
  rec sf 0 1 x3_13
  else
  nm (x3 + 1) fun x3_12 =>
  rec sf 0 0 x3_12)
  else
  nm (x3 + 1) fun x3_10 =>
  rec sf 0 0 x3_10)))
  else
  (if x2 = 0 then
  nm (x3 + 1) fun x3_1 =>
  rec sf 1 0 x3_1
  else
  chk ((106 + (3 * x3)) + 1) 234 fun j_2 =>
  (if (sf j_2) = (sf 107) then
  chk ((106 + (3 * x3)) + 2) 234 fun j_4 =>
  (if (sf j_4) = (x3 / 2) then
  nm (x3 + 1) fun x3_6 =>
  rec sf 1 1 x3_6
  else
  nm (x3 + 1) fun x3_5 =>
  rec sf 1 0 x3_5)
  else
  nm (x3 + 1) fun x3_3 =>
  rec sf 1 0 x3_3))))
def fX5_judged_6 : Nat → (Nat → Int32) → Int32 → Int32 → Int32 → Option (Int32)
  | 0 => fun _ _ _ _ => none
  | n + 1 => fX5_judged_6_b (fX5_judged_6 n)

/-- the mirror of X5_judged -/
def fX5_judged (sf : Nat → Int32) : Option (Int32) :=
  fX5_judged_6 KF sf 0 1 0

def fX5_goesOut_231 (sf : Nat → Int32) : Option ((Nat → Int32)) :=
  nm (upd sf 19 ((sf 19) + (sf 2))) fun sf_1 =>
  some (sf_1)

def fX5_goesOut_185 (sf : Nat → Int32) : Option ((Nat → Int32)) :=
  nm (upd sf 15 ((sf 15) + 1)) fun sf_1 =>
  (if (sf_1 15) < (2 * (sf_1 4)) then
  fX5_goesOut_231 sf_1
  else
  nm (upd sf_1 15 0) fun sf_2 =>
  ob1 (fX5_judged sf_2) fun r_3 =>
  nm (upd sf_2 23 r_3) fun sf_5 =>
  nm ((20 + (sf_5 23))) fun y_6 =>
  chk y_6 234 fun j_7 =>
  chk y_6 234 fun j_8 =>
  nm (upd sf_5 j_8 ((sf_5 j_7) + 1)) fun sf_9 =>
  fX5_goesOut_231 sf_9)

def fX5_goesOut_40 (sf : Nat → Int32) (x1 : Int32) : Option ((Nat → Int32)) :=
  (if (sf 10) ≤ 0 then
  chk (106 + (3 * x1)) 234 fun j_1 =>
  nm (upd sf j_1 (sf 7)) fun sf_2 =>
  chk ((106 + (3 * x1)) + 1) 234 fun j_3 =>
  nm (upd sf_2 j_3 (-6)) fun sf_4 =>
  chk ((106 + (3 * x1)) + 2) 234 fun j_5 =>
  nm (upd sf_4 j_5 (-6)) fun sf_6 =>
  nm (upd sf_6 13 ((sf_6 13) + 1)) fun sf_7 =>
  nm (upd sf_7 14 ((sf_7 14) + 1)) fun sf_8 =>
  fX5_goesOut_185 sf_8
  else
  ob1 (fX5_of sf (0 : Int32) (2 : Int32)) fun r_9 =>
  chk (106 + (3 * x1)) 234 fun j_11 =>
  nm (upd sf j_11 r_9) fun sf_12 =>
  ob1 (fX5_of sf_12 (0 : Int32) (0 : Int32)) fun r_13 =>
  chk ((106 + (3 * x1)) + 1) 234 fun j_15 =>
  nm (upd sf_12 j_15 r_13) fun sf_16 =>
  ob1 (fX5_of sf_16 (0 : Int32) (1 : Int32)) fun r_17 =>
  chk ((106 + (3 * x1)) + 2) 234 fun j_19 =>
  nm (upd sf_16 j_19 r_17) fun sf_20 =>
  nm (upd sf_20 13 ((sf_20 13) + 1)) fun sf_21 =>
  nm (upd sf_21 14 ((sf_21 14) + 0)) fun sf_22 =>
  nm (upd sf_22 45 ((sf_22 45) + 1)) fun sf_23 =>
  (if (sf_23 45) = 2 then
  nm (upd sf_23 11 ((sf_23 11) + 1)) fun sf_24 =>
  ob1 (fX5_leaves sf_24 (0 : Int32)) fun sf_25 =>
  fX5_goesOut_185 sf_25
  else
  fX5_goesOut_185 sf_23))

def fX5_goesOut_5_b (rec : (Nat → Int32) → Int32 → Option ((Nat → Int32))) (sf : Nat → Int32) (x1 : Int32) : Option ((Nat → Int32)) :=
  (if (sf 6) = 1 then
  (if x1 = 0 then
  (if (sf 10) ≤ 0 then
  fX5_goesOut_40 sf x1
  else
  ob1 (fX5_isBegin sf) fun r_1 =>
  (if r_1 = 0 then
  ob1 (fX5_loses sf (0 : Int32) (2 : Int32)) fun sf_3 =>
  rec sf_3 x1
  else
  fX5_goesOut_40 sf x1))
  else
  fX5_goesOut_40 sf x1)
  else
  fX5_goesOut_40 sf x1)
def fX5_goesOut_5 : Nat → (Nat → Int32) → Int32 → Option ((Nat → Int32))
  | 0 => fun _ _ => none
  | n + 1 => fX5_goesOut_5_b (fX5_goesOut_5 n)

/-- the mirror of X5_goesOut -/
def fX5_goesOut (sf : Nat → Int32) : Option ((Nat → Int32)) :=
  nm ((sf 15)) fun x1_1 =>
  fX5_goesOut_5 KF sf x1_1

def fX5_ticks_28 (sf : Nat → Int32) : Option ((Nat → Int32)) :=
  nm (upd sf 0 ((sf 0) + 1)) fun sf_1 =>
  nm (upd sf_1 25 ((sf_1 25) + (sf_1 10))) fun sf_2 =>
  some (sf_2)

def fX5_ticks_14 (sf : Nat → Int32) : Option ((Nat → Int32)) :=
  (if (sf 19) = (sf 0) then
  ob1 (fX5_goesOut sf) fun sf_1 =>
  fX5_ticks_28 sf_1
  else
  fX5_ticks_28 sf)

/-- the mirror of X5_ticks -/
def fX5_ticks (sf : Nat → Int32) : Option ((Nat → Int32)) :=
  (if (sf 18) = (sf 0) then
  ob1 (fX5_comes sf) fun sf_1 =>
  fX5_ticks_14 sf_1
  else
  fX5_ticks_14 sf)

def fX5_passes_2_b (rec : (Nat → Int32) → Int32 → Int32 → Option ((Nat → Int32))) (sf : Nat → Int32) (x1 : Int32) (x2 : Int32) : Option ((Nat → Int32)) :=
  (if x1 ≤ x2 then
  some (sf)
  else
  ob1 (fX5_ticks sf) fun sf_1 =>
  nm (x2 + 1) fun x2_3 =>
  rec sf_1 x1 x2_3)
def fX5_passes_2 : Nat → (Nat → Int32) → Int32 → Int32 → Option ((Nat → Int32))
  | 0 => fun _ _ _ => none
  | n + 1 => fX5_passes_2_b (fX5_passes_2 n)

/-- the mirror of X5_passes -/
def fX5_passes (sf : Nat → Int32) (x1 : Int32) : Option ((Nat → Int32)) :=
  fX5_passes_2 KF sf x1 0

/-- the mirror of X5_isFor -/
def fX5_isFor (x0 : Int32) (x1 : Int32) : Option (Int32) :=
  (if x0 = 0 then
  ob1 (fX5_in x1 (2 : Int32) (99 : Int32)) fun r_1 =>
  nd (r_1 = 0 ∨ r_1 = 1) <|
  some (r_1)
  else
  (if x0 = 1 then
  ob1 (fX5_in x1 (1 : Int32) (99 : Int32)) fun r_3 =>
  nd (r_3 = 0 ∨ r_3 = 1) <|
  some (r_3)
  else
  (if x0 = 2 then
  ob1 (fX5_in x1 (1 : Int32) (16 : Int32)) fun r_5 =>
  nd (r_5 = 0 ∨ r_5 = 1) <|
  some (r_5)
  else
  (if x0 = 3 then
  ob1 (fX5_in x1 (2 : Int32) (16 : Int32)) fun r_7 =>
  nd (r_7 = 0 ∨ r_7 = 1) <|
  some (r_7)
  else
  (if x0 = 4 then
  ob1 (fX5_in x1 (0 : Int32) (1 : Int32)) fun r_9 =>
  nd (r_9 = 0 ∨ r_9 = 1) <|
  some (r_9)
  else
  (if x0 = 5 then
  ob1 (fX5_in x1 (0 : Int32) (1 : Int32)) fun r_11 =>
  nd (r_11 = 0 ∨ r_11 = 1) <|
  some (r_11)
  else
  ob1 (fX5_in x1 (0 : Int32) (255 : Int32)) fun r_13 =>
  nd (r_13 = 0 ∨ r_13 = 1) <|
  some (r_13)))))))

/-- the mirror of X5_mayTell -/
def fX5_mayTell (x0 : Int32) (x1 : Int32) : Option (Int32) :=
  ob1 (fX5_in x0 (0 : Int32) (15 : Int32)) fun r_1 =>
  (if r_1 = 0 then
  some ((-1))
  else
  ob1 (fX5_in x1 (0 : Int32) (255 : Int32)) fun r_3 =>
  (if r_3 = 0 then
  some ((-2))
  else
  some (0)))

/-- the mirror of X5_maySlip -/
def fX5_maySlip (x0 : Int32) (x1 : Int32) : Option (Int32) :=
  ob1 (fX5_in x0 (0 : Int32) (1 : Int32)) fun r_1 =>
  (if r_1 = 0 then
  some ((-2))
  else
  ob1 (fX5_in x1 (1 : Int32) (99 : Int32)) fun r_3 =>
  (if r_3 = 0 then
  some ((-2))
  else
  some (0)))

/-- the mirror of X5_areTicks -/
def fX5_areTicks (x0 : Int32) : Option (Int32) :=
  ob1 (fX5_in x0 (1 : Int32) (999 : Int32)) fun r_1 =>
  nd (r_1 = 0 ∨ r_1 = 1) <|
  some (r_1)

/-- the mirror of X5_byteOf -/
def fX5_byteOf (x0 : Int64) (x2 : Int32) : Option (Int32) :=
  some ((((x0 >>> ((8 * x2).toInt64 &&& 63)) &&& 255).toInt32))

def fX5_toldBy_42_b (rec : Int64 → Int32 → Int32 → Option (Int32)) (x0 : Int64) (x2 : Int32) (x3 : Int32) : Option (Int32) :=
  (if 8 ≤ x3 then
  (if x2 = 0 then
  some ((-2))
  else
  some (x2))
  else
  ob1 (fX5_byteOf x0 x3) fun r_1 =>
  (if r_1 = 0 then
  nm (x3 + 1) fun x3_3 =>
  rec x0 x2 x3_3
  else
  some ((-2))))
def fX5_toldBy_42 : Nat → Int64 → Int32 → Int32 → Option (Int32)
  | 0 => fun _ _ _ => none
  | n + 1 => fX5_toldBy_42_b (fX5_toldBy_42 n)

def fX5_toldBy_2_b (rec : Int64 → Int32 → Option (Int32)) (x0 : Int64) (x2 : Int32) : Option (Int32) :=
  (if 8 ≤ x2 then
  fX5_toldBy_42 KF x0 x2 x2
  else
  ob1 (fX5_byteOf x0 x2) fun r_1 =>
  (if r_1 = 0 then
  fX5_toldBy_42 KF x0 x2 x2
  else
  ob1 (fX5_byteOf x0 x2) fun r_3 =>
  ob1 (fX5_in r_3 (33 : Int32) (126 : Int32)) fun r_5 =>
  (if r_5 = 0 then
  some ((-2))
  else
  nm (x2 + 1) fun x2_7 =>
  rec x0 x2_7)))
def fX5_toldBy_2 : Nat → Int64 → Int32 → Option (Int32)
  | 0 => fun _ _ => none
  | n + 1 => fX5_toldBy_2_b (fX5_toldBy_2 n)

/-- the mirror of X5_toldBy -/
def fX5_toldBy (x0 : Int64) : Option (Int32) :=
  fX5_toldBy_2 KF x0 0

def rm_X5_in : Room := { frames := 0, cells := 0, slots := 0, locals := 0 }
set_option maxHeartbeats 4000000 in
set_option maxRecDepth 100000 in
theorem c_X5_in (l : Launch) (G : va_G) (cI cC cZ : ClassId) (X : List (ClassId × FieldType)) (x0 : Int32) (x1 : Int32) (x2 : Int32) (rv : Int32) (hf : fX5_in x0 x1 x2 = some (rv)) : CT l yX5_in wsX5_in rm_X5_in G (TY cI cC cZ X) [.int x0, .int x1, .int x2] ([] : va_W) (some (.int rv)) ([] : va_W) := by
  refine CT.of (cc := cX5_in) (maxL := 3) (ret := (some .boolean)) RX5 rfl (by decide) rfl (Nat.le_of_ble_eq_true rfl) ?_
  intro p e s m args below meth c A ls C hr hlocks hnm h hl
  have hx := C.hx
  have hb := C.hb
  have hl : lv_has ls 3 [(0, .int x0), (1, .int x1), (2, .int x2)] := hl
  unfold fX5_in at hf
  refine lv_iload_n hx hb dX5_in_0 rfl (lv_at hl 0 rfl) ?_
  refine lv_iload_n hx hb dX5_in_1 rfl (lv_at hl 1 rfl) ?_
  refine lv_icmp_lt (tgt := 14) hx hb dX5_in_2 (by decide) (fun hc => ?_) (fun hc => ?_)
  · replace hf := it_t hf hc
    refine lv_iconst (v := 0) hx hb dX5_in_14 (by decide) ?_
    cases hf
    exact r_zret C h hr hlocks rfl dX5_in_15
  · replace hf := it_f hf hc
    refine lv_iload_n hx hb dX5_in_5 rfl (lv_at hl 0 rfl) ?_
    refine lv_iload_n hx hb dX5_in_6 rfl (lv_at hl 2 rfl) ?_
    refine lv_icmp_gt (tgt := 14) hx hb dX5_in_7 (by decide) (fun hc => ?_) (fun hc => ?_)
    · replace hf := it_t hf hc
      refine lv_iconst (v := 0) hx hb dX5_in_14 (by decide) ?_
      cases hf
      exact r_zret C h hr hlocks rfl dX5_in_15
    · replace hf := it_f hf hc
      refine lv_iconst (v := 1) hx hb dX5_in_10 (by decide) ?_
      refine lv_goto (tgt := 15) hx hb dX5_in_11 (by decide) ?_
      cases hf
      exact r_zret C h hr hlocks rfl dX5_in_15
def rm_X5_lays : Room := { frames := 0, cells := 0, slots := 0, locals := 0 }
set_option maxHeartbeats 4000000 in
set_option maxRecDepth 100000 in
theorem c_X5_lays (l : Launch) (G : va_G) (cI cC cZ : ClassId) (X : List (ClassId × FieldType)) (u0 u1 : Nat) (un : Nat) (uf : Nat → Int32) (vn : Nat) (vf : Nat → Int32) (x1 : Int32) (x3 : Int32) (vf' : Nat → Int32) (hf : fX5_lays un uf vn vf x1 x3 = some (vf')) : CT l yX5_lays wsX5_lays rm_X5_lays G (TY cI cC cZ X) [.ref u0, .int x1, .ref u1, .int x3] (wA2 cI u0 u1 un uf vn vf) none (wA2 cI u0 u1 un uf vn vf') := by
  refine CT.of (cc := cX5_lays) (maxL := 5) (ret := none) RX5 rfl (by decide) rfl (Nat.le_of_ble_eq_true rfl) ?_
  intro p e s m args below meth c A ls C hr hlocks hnm h hl
  have hx := C.hx
  have hb := C.hb
  have hl : lv_has ls 5 [(0, .ref u0), (1, .int x1), (2, .ref u1), (3, .int x3)] := hl
  have cut_3 : ∀ (n : Nat) (vf : Nat → Int32) (x1 : Int32) (x3 : Int32) (x4 : Int32) (H : Heap) (locs : List Loc) (ls : Array Slot), Hx s G A (wA2 cI u0 u1 un uf vn vf) H locs → lv_has ls 5 [(0, .ref u0), (1, .int x1), (2, .ref u1), (3, .int x3), (4, .int x4)] → fX5_lays_3 n un uf vn vf x1 x3 x4 = some (vf') → W p l e rm_X5_lays s m args below meth c H locs 0 0 (MQ below (Qx G none (wA2 cI u0 u1 un uf vn vf') A) args s 0 0 A) (F0 m 3 ls []) := by
    intro n
    induction n with
    | zero =>
      intro vf x1 x3 x4 H locs ls h hl hf
      exact (nn_some _ hf).elim
    | succ n ih =>
      intro vf x1 x3 x4 H locs ls h hl hf
      have hf : fX5_lays_3_b (fX5_lays_3 n) un uf vn vf x1 x3 x4 = some (vf') := hf
      unfold fX5_lays_3_b at hf
      refine lv_iload hx hb dX5_lays_3 (lv_at hl 4 rfl) ?_
      refine lv_sipush (v := 234) hx hb dX5_lays_5 (by decide) ?_
      refine lv_icmp_ge (tgt := 29) hx hb dX5_lays_8 (by decide) (fun hc => ?_) (fun hc => ?_)
      · replace hf := it_t hf hc
        cases hf
        exact r_vret C h hr hlocks dX5_lays_29
      · replace hf := it_f hf hc
        refine lv_aload_n hx hb dX5_lays_11 rfl (lv_at hl 2 rfl) ?_
        refine lv_iload_n hx hb dX5_lays_12 rfl (lv_at hl 3 rfl) ?_
        refine lv_iload hx hb dX5_lays_13 (lv_at hl 4 rfl) ?_
        refine lv_iadd hx hb dX5_lays_15 ?_
        refine lv_aload_n hx hb dX5_lays_16 rfl (lv_at hl 0 rfl) ?_
        refine lv_iload_n hx hb dX5_lays_17 rfl (lv_at hl 1 rfl) ?_
        refine lv_iload hx hb dX5_lays_18 (lv_at hl 4 rfl) ?_
        refine lv_iadd hx hb dX5_lays_20 ?_
        obtain ⟨j_1, hj_1, hf⟩ := chk_use hf
        refine r_ald C h 0 rfl rfl hj_1 dX5_lays_21 ?_
        obtain ⟨j_2, hj_2, hf⟩ := chk_use hf
        refine r_ast C h 1 rfl rfl hj_2 (fun z__ => (wA2 cI u0 u1 un uf vn z__)) (fun _ => rfl) dX5_lays_22 (fun vf_3 evf_3 H locs h => ?_)
        replace hf := nm_use hf evf_3
        obtain ⟨x4_4, ex4_4⟩ : ∃ y : Int32, y = x4 + 1 := ⟨_, rfl⟩
        replace hf := nm_use hf ex4_4
        refine lv_iinc (v := x4_4) (lv' := [(4, .int x4_4), (0, .ref u0), (1, .int x1), (2, .ref u1), (3, .int x3)]) hx hb dX5_lays_23 hl (k := 4) rfl (by rw [ex4_4]; rfl) (by decide) rfl (fun ls hl => ?_)
        refine lv_goto (tgt := 3) hx hb dX5_lays_26 (by decide) ?_
        exact ih vf_3 x1 x3 x4_4 _ _ _ h (lv_sub hl [1, 2, 3, 4, 0] rfl) hf
  unfold fX5_lays at hf
  refine lv_iconst (v := 0) hx hb dX5_lays_0 (by decide) ?_
  refine lv_istore (lv' := [(4, .int 0), (0, .ref u0), (1, .int x1), (2, .ref u1), (3, .int x3)]) hx hb dX5_lays_1 hl (by decide) rfl (fun ls hl => ?_)
  exact cut_3 KF vf x1 x3 0 _ _ _ h (lv_sub hl [1, 2, 3, 4, 0] rfl) hf
def rm_X5_of : Room := { frames := 0, cells := 0, slots := 0, locals := 0 }
set_option maxHeartbeats 4000000 in
set_option maxRecDepth 100000 in
theorem c_X5_of (l : Launch) (G : va_G) (cI cC cZ : ClassId) (X : List (ClassId × FieldType)) (s0 : Nat) (sf : Nat → Int32) (x1 : Int32) (x2 : Int32) (rv : Int32) (hf : fX5_of sf x1 x2 = some (rv)) : CT l yX5_of wsX5_of rm_X5_of G (TY cI cC cZ X) [.ref s0, .int x1, .int x2] (wA1 cI s0 sf) (some (.int rv)) (wA1 cI s0 sf) := by
  refine CT.of (cc := cX5_of) (maxL := 3) (ret := (some .int)) RX5 rfl (by decide) rfl (Nat.le_of_ble_eq_true rfl) ?_
  intro p e s m args below meth c A ls C hr hlocks hnm h hl
  have hx := C.hx
  have hb := C.hb
  have hl : lv_has ls 3 [(0, .ref s0), (1, .int x1), (2, .int x2)] := hl
  unfold fX5_of at hf
  refine lv_aload_n hx hb dX5_of_0 rfl (lv_at hl 0 rfl) ?_
  refine lv_bipush (v := 42) hx hb dX5_of_1 (by decide) ?_
  refine lv_iconst (v := 4) hx hb dX5_of_3 (by decide) ?_
  refine lv_iload_n hx hb dX5_of_4 rfl (lv_at hl 1 rfl) ?_
  refine lv_imul hx hb dX5_of_5 ?_
  refine lv_iadd hx hb dX5_of_6 ?_
  refine lv_iload_n hx hb dX5_of_7 rfl (lv_at hl 2 rfl) ?_
  refine lv_iadd hx hb dX5_of_8 ?_
  obtain ⟨j_1, hj_1, hf⟩ := chk_use hf
  refine r_ald C h 0 rfl rfl hj_1 dX5_of_9 ?_
  cases hf
  exact r_iret C h hr hlocks dX5_of_10
def rm_X5_misses : Room := { frames := 0, cells := 0, slots := 0, locals := 0 }
set_option maxHeartbeats 4000000 in
set_option maxRecDepth 100000 in
theorem c_X5_misses (l : Launch) (G : va_G) (cI cC cZ : ClassId) (X : List (ClassId × FieldType)) (s0 : Nat) (sf : Nat → Int32) (x1 : Int32) (x2 : Int32) (x3 : Int32) (sf' : Nat → Int32) (hf : fX5_misses sf x1 x2 x3 = some (sf')) : CT l yX5_misses wsX5_misses rm_X5_misses G (TY cI cC cZ X) [.ref s0, .int x1, .int x2, .int x3] (wA1 cI s0 sf) none (wA1 cI s0 sf') := by
  refine CT.of (cc := cX5_misses) (maxL := 5) (ret := none) RX5 rfl (by decide) rfl (Nat.le_of_ble_eq_true rfl) ?_
  intro p e s m args below meth c A ls C hr hlocks hnm h hl
  have hx := C.hx
  have hb := C.hb
  have hl : lv_has ls 5 [(0, .ref s0), (1, .int x1), (2, .int x2), (3, .int x3)] := hl
  have cut_5 : ∀ (n : Nat) (sf : Nat → Int32) (x1 : Int32) (x2 : Int32) (x3 : Int32) (x4 : Int32) (H : Heap) (locs : List Loc) (ls : Array Slot), Hx s G A (wA1 cI s0 sf) H locs → lv_has ls 5 [(0, .ref s0), (1, .int x1), (2, .int x2), (3, .int x3), (4, .int x4)] → fX5_misses_5 n sf x1 x2 x3 x4 = some (sf') → W p l e rm_X5_misses s m args below meth c H locs 0 0 (MQ below (Qx G none (wA1 cI s0 sf') A) args s 0 0 A) (F0 m 5 ls []) := by
    intro n
    induction n with
    | zero =>
      intro sf x1 x2 x3 x4 H locs ls h hl hf
      exact (nn_some _ hf).elim
    | succ n ih =>
      intro sf x1 x2 x3 x4 H locs ls h hl hf
      have hf : fX5_misses_5_b (fX5_misses_5 n) sf x1 x2 x3 x4 = some (sf') := hf
      unfold fX5_misses_5_b at hf
      refine lv_iload hx hb dX5_misses_5 (lv_at hl 4 rfl) ?_
      refine lv_sipush (v := 206) hx hb dX5_misses_7 (by decide) ?_
      refine lv_icmp_lt (tgt := 29) hx hb dX5_misses_10 (by decide) (fun hc => ?_) (fun hc => ?_)
      · replace hf := it_t hf hc
        refine lv_aload_n hx hb dX5_misses_29 rfl (lv_at hl 0 rfl) ?_
        refine lv_sipush (v := 202) hx hb dX5_misses_30 (by decide) ?_
        refine lv_iload_n hx hb dX5_misses_33 rfl (lv_at hl 1 rfl) ?_
        refine r_ast C h 0 rfl rfl k_202_234 (fun z__ => (wA1 cI s0 z__)) (fun _ => rfl) dX5_misses_34 (fun sf_1 esf_1 H locs h => ?_)
        replace hf := nm_use hf esf_1
        refine lv_aload_n hx hb dX5_misses_35 rfl (lv_at hl 0 rfl) ?_
        refine lv_sipush (v := 203) hx hb dX5_misses_36 (by decide) ?_
        refine lv_iload_n hx hb dX5_misses_39 rfl (lv_at hl 2 rfl) ?_
        refine r_ast C h 0 rfl rfl k_203_234 (fun z__ => (wA1 cI s0 z__)) (fun _ => rfl) dX5_misses_40 (fun sf_2 esf_2 H locs h => ?_)
        replace hf := nm_use hf esf_2
        refine lv_aload_n hx hb dX5_misses_41 rfl (lv_at hl 0 rfl) ?_
        refine lv_sipush (v := 204) hx hb dX5_misses_42 (by decide) ?_
        refine lv_iload_n hx hb dX5_misses_45 rfl (lv_at hl 3 rfl) ?_
        refine r_ast C h 0 rfl rfl k_204_234 (fun z__ => (wA1 cI s0 z__)) (fun _ => rfl) dX5_misses_46 (fun sf_3 esf_3 H locs h => ?_)
        replace hf := nm_use hf esf_3
        refine lv_aload_n hx hb dX5_misses_47 rfl (lv_at hl 0 rfl) ?_
        refine lv_sipush (v := 205) hx hb dX5_misses_48 (by decide) ?_
        refine lv_aload_n hx hb dX5_misses_51 rfl (lv_at hl 0 rfl) ?_
        refine lv_iconst (v := 0) hx hb dX5_misses_52 (by decide) ?_
        refine r_ald C h 0 rfl rfl k_0_234 dX5_misses_53 ?_
        refine r_ast C h 0 rfl rfl k_205_234 (fun z__ => (wA1 cI s0 z__)) (fun _ => rfl) dX5_misses_54 (fun sf_4 esf_4 H locs h => ?_)
        replace hf := nm_use hf esf_4
        refine lv_aload_n hx hb dX5_misses_55 rfl (lv_at hl 0 rfl) ?_
        refine lv_bipush (v := 24) hx hb dX5_misses_56 (by decide) ?_
        refine lv_dup2_11 hx hb dX5_misses_58 rfl rfl ?_
        refine r_ald C h 0 rfl rfl k_24_234 dX5_misses_59 ?_
        refine lv_aload_n hx hb dX5_misses_60 rfl (lv_at hl 0 rfl) ?_
        refine lv_bipush (v := 24) hx hb dX5_misses_61 (by decide) ?_
        refine r_ald C h 0 rfl rfl k_24_234 dX5_misses_63 ?_
        refine lv_bipush (v := 8) hx hb dX5_misses_64 (by decide) ?_
        refine lv_icmp_ge (tgt := 73) hx hb dX5_misses_66 (by decide) (fun hc => ?_) (fun hc => ?_)
        · replace hf := it_t hf hc
          refine lv_iconst (v := 0) hx hb dX5_misses_73 (by decide) ?_
          refine lv_iadd hx hb dX5_misses_74 ?_
          refine r_ast C h 0 rfl rfl k_24_234 (fun z__ => (wA1 cI s0 z__)) (fun _ => rfl) dX5_misses_75 (fun sf_5 esf_5 H locs h => ?_)
          replace hf := nm_use hf esf_5
          refine lv_aload_n hx hb dX5_misses_76 rfl (lv_at hl 0 rfl) ?_
          refine lv_bipush (v := 12) hx hb dX5_misses_77 (by decide) ?_
          refine lv_dup2_11 hx hb dX5_misses_79 rfl rfl ?_
          refine r_ald C h 0 rfl rfl k_12_234 dX5_misses_80 ?_
          refine lv_iconst (v := 1) hx hb dX5_misses_81 (by decide) ?_
          refine lv_iadd hx hb dX5_misses_82 ?_
          refine r_ast C h 0 rfl rfl k_12_234 (fun z__ => (wA1 cI s0 z__)) (fun _ => rfl) dX5_misses_83 (fun sf_6 esf_6 H locs h => ?_)
          replace hf := nm_use hf esf_6
          cases hf
          exact r_vret C h hr hlocks dX5_misses_84
        · replace hf := it_f hf hc
          refine lv_iconst (v := 1) hx hb dX5_misses_69 (by decide) ?_
          refine lv_goto (tgt := 74) hx hb dX5_misses_70 (by decide) ?_
          refine lv_iadd hx hb dX5_misses_74 ?_
          refine r_ast C h 0 rfl rfl k_24_234 (fun z__ => (wA1 cI s0 z__)) (fun _ => rfl) dX5_misses_75 (fun sf_7 esf_7 H locs h => ?_)
          replace hf := nm_use hf esf_7
          refine lv_aload_n hx hb dX5_misses_76 rfl (lv_at hl 0 rfl) ?_
          refine lv_bipush (v := 12) hx hb dX5_misses_77 (by decide) ?_
          refine lv_dup2_11 hx hb dX5_misses_79 rfl rfl ?_
          refine r_ald C h 0 rfl rfl k_12_234 dX5_misses_80 ?_
          refine lv_iconst (v := 1) hx hb dX5_misses_81 (by decide) ?_
          refine lv_iadd hx hb dX5_misses_82 ?_
          refine r_ast C h 0 rfl rfl k_12_234 (fun z__ => (wA1 cI s0 z__)) (fun _ => rfl) dX5_misses_83 (fun sf_8 esf_8 H locs h => ?_)
          replace hf := nm_use hf esf_8
          cases hf
          exact r_vret C h hr hlocks dX5_misses_84
      · replace hf := it_f hf hc
        refine lv_aload_n hx hb dX5_misses_13 rfl (lv_at hl 0 rfl) ?_
        refine lv_iload hx hb dX5_misses_14 (lv_at hl 4 rfl) ?_
        refine lv_aload_n hx hb dX5_misses_16 rfl (lv_at hl 0 rfl) ?_
        refine lv_iload hx hb dX5_misses_17 (lv_at hl 4 rfl) ?_
        refine lv_iconst (v := 4) hx hb dX5_misses_19 (by decide) ?_
        refine lv_isub hx hb dX5_misses_20 ?_
        obtain ⟨j_9, hj_9, hf⟩ := chk_use hf
        refine r_ald C h 0 rfl rfl hj_9 dX5_misses_21 ?_
        obtain ⟨j_10, hj_10, hf⟩ := chk_use hf
        refine r_ast C h 0 rfl rfl hj_10 (fun z__ => (wA1 cI s0 z__)) (fun _ => rfl) dX5_misses_22 (fun sf_11 esf_11 H locs h => ?_)
        replace hf := nm_use hf esf_11
        obtain ⟨x4_12, ex4_12⟩ : ∃ y : Int32, y = x4 + (-1) := ⟨_, rfl⟩
        replace hf := nm_use hf ex4_12
        refine lv_iinc (v := x4_12) (lv' := [(4, .int x4_12), (0, .ref s0), (1, .int x1), (2, .int x2), (3, .int x3)]) hx hb dX5_misses_23 hl (k := 4) rfl (by rw [ex4_12]; rfl) (by decide) rfl (fun ls hl => ?_)
        refine lv_goto (tgt := 5) hx hb dX5_misses_26 (by decide) ?_
        exact ih sf_11 x1 x2 x3 x4_12 _ _ _ h (lv_sub hl [1, 2, 3, 4, 0] rfl) hf
  unfold fX5_misses at hf
  refine lv_sipush (v := 233) hx hb dX5_misses_0 (by decide) ?_
  refine lv_istore (lv' := [(4, .int 233), (0, .ref s0), (1, .int x1), (2, .int x2), (3, .int x3)]) hx hb dX5_misses_3 hl (by decide) rfl (fun ls hl => ?_)
  exact cut_5 KF sf x1 x2 x3 233 _ _ _ h (lv_sub hl [1, 2, 3, 4, 0] rfl) hf
def rm_X5_leaves : Room := { frames := 0, cells := 0, slots := 0, locals := 0 }
set_option maxHeartbeats 4000000 in
set_option maxRecDepth 100000 in
theorem c_X5_leaves (l : Launch) (G : va_G) (cI cC cZ : ClassId) (X : List (ClassId × FieldType)) (s0 : Nat) (sf : Nat → Int32) (x1 : Int32) (sf' : Nat → Int32) (hf : fX5_leaves sf x1 = some (sf')) : CT l yX5_leaves wsX5_leaves rm_X5_leaves G (TY cI cC cZ X) [.ref s0, .int x1] (wA1 cI s0 sf) none (wA1 cI s0 sf') := by
  refine CT.of (cc := cX5_leaves) (maxL := 3) (ret := none) RX5 rfl (by decide) rfl (Nat.le_of_ble_eq_true rfl) ?_
  intro p e s m args below meth c A ls C hr hlocks hnm h hl
  have hx := C.hx
  have hb := C.hb
  have hl : lv_has ls 3 [(0, .ref s0), (1, .int x1)] := hl
  have cut_15 : ∀ (n : Nat) (sf : Nat → Int32) (x2 : Int32) (H : Heap) (locs : List Loc) (ls : Array Slot), Hx s G A (wA1 cI s0 sf) H locs → lv_has ls 3 [(0, .ref s0), (2, .int x2)] → fX5_leaves_15 n sf x2 = some (sf') → W p l e rm_X5_leaves s m args below meth c H locs 0 0 (MQ below (Qx G none (wA1 cI s0 sf') A) args s 0 0 A) (F0 m 15 ls []) := by
    intro n
    induction n with
    | zero =>
      intro sf x2 H locs ls h hl hf
      exact (nn_some _ hf).elim
    | succ n ih =>
      intro sf x2 H locs ls h hl hf
      have hf : fX5_leaves_15_b (fX5_leaves_15 n) sf x2 = some (sf') := hf
      unfold fX5_leaves_15_b at hf
      refine lv_iload_n hx hb dX5_leaves_15 rfl (lv_at hl 1 rfl) ?_
      refine lv_bipush (v := 42) hx hb dX5_leaves_16 (by decide) ?_
      refine lv_iconst (v := 4) hx hb dX5_leaves_18 (by decide) ?_
      refine lv_aload_n hx hb dX5_leaves_19 rfl (lv_at hl 0 rfl) ?_
      refine lv_bipush (v := 10) hx hb dX5_leaves_20 (by decide) ?_
      refine r_ald C h 0 rfl rfl k_10_234 dX5_leaves_22 ?_
      refine lv_imul hx hb dX5_leaves_23 ?_
      refine lv_iadd hx hb dX5_leaves_24 ?_
      refine lv_icmp_ge (tgt := 42) hx hb dX5_leaves_25 (by decide) (fun hc => ?_) (fun hc => ?_)
      · replace hf := it_t hf hc
        cases hf
        exact r_vret C h hr hlocks dX5_leaves_42
      · replace hf := it_f hf hc
        refine lv_aload_n hx hb dX5_leaves_28 rfl (lv_at hl 0 rfl) ?_
        refine lv_iload_n hx hb dX5_leaves_29 rfl (lv_at hl 1 rfl) ?_
        refine lv_aload_n hx hb dX5_leaves_30 rfl (lv_at hl 0 rfl) ?_
        refine lv_iload_n hx hb dX5_leaves_31 rfl (lv_at hl 1 rfl) ?_
        refine lv_iconst (v := 4) hx hb dX5_leaves_32 (by decide) ?_
        refine lv_iadd hx hb dX5_leaves_33 ?_
        obtain ⟨j_1, hj_1, hf⟩ := chk_use hf
        refine r_ald C h 0 rfl rfl hj_1 dX5_leaves_34 ?_
        obtain ⟨j_2, hj_2, hf⟩ := chk_use hf
        refine r_ast C h 0 rfl rfl hj_2 (fun z__ => (wA1 cI s0 z__)) (fun _ => rfl) dX5_leaves_35 (fun sf_3 esf_3 H locs h => ?_)
        replace hf := nm_use hf esf_3
        obtain ⟨x2_4, ex2_4⟩ : ∃ y : Int32, y = x2 + 1 := ⟨_, rfl⟩
        replace hf := nm_use hf ex2_4
        refine lv_iinc (v := x2_4) (lv' := [(2, .int x2_4), (0, .ref s0)]) hx hb dX5_leaves_36 hl (k := 1) rfl (by rw [ex2_4]; rfl) (by decide) rfl (fun ls hl => ?_)
        refine lv_goto (tgt := 15) hx hb dX5_leaves_39 (by decide) ?_
        exact ih sf_3 x2_4 _ _ _ h (lv_sub hl [1, 0] rfl) hf
  unfold fX5_leaves at hf
  refine lv_aload_n hx hb dX5_leaves_0 rfl (lv_at hl 0 rfl) ?_
  refine lv_bipush (v := 10) hx hb dX5_leaves_1 (by decide) ?_
  refine lv_dup2_11 hx hb dX5_leaves_3 rfl rfl ?_
  refine r_ald C h 0 rfl rfl k_10_234 dX5_leaves_4 ?_
  refine lv_iconst (v := 1) hx hb dX5_leaves_5 (by decide) ?_
  refine lv_isub hx hb dX5_leaves_6 ?_
  refine r_ast C h 0 rfl rfl k_10_234 (fun z__ => (wA1 cI s0 z__)) (fun _ => rfl) dX5_leaves_7 (fun sf_1 esf_1 H locs h => ?_)
  replace hf := nm_use hf esf_1
  refine lv_bipush (v := 42) hx hb dX5_leaves_8 (by decide) ?_
  refine lv_iconst (v := 4) hx hb dX5_leaves_10 (by decide) ?_
  refine lv_iload_n hx hb dX5_leaves_11 rfl (lv_at hl 1 rfl) ?_
  refine lv_imul hx hb dX5_leaves_12 ?_
  refine lv_iadd hx hb dX5_leaves_13 ?_
  refine lv_topi (fun x2_2 ex2_2 => ?_)
  replace hf := nm_use hf ex2_2
  refine lv_istore_n (lv' := [(2, .int x2_2), (0, .ref s0), (1, .int x1)]) hx hb dX5_leaves_14 rfl hl (by decide) rfl (fun ls hl => ?_)
  exact cut_15 KF sf_1 x2_2 _ _ _ h (lv_sub hl [1, 0] rfl) hf
def rm_X5_loses : Room := { frames := 1, cells := 0, slots := 0, locals := 24 }
set_option maxRecDepth 20000 in
theorem cw_X5_loses_X5_of_47 {s : State} {args : Array Value} (hts : ∀ w ∈ wsX5_loses, w.before args s = true) : CallB rm_X5_loses s args RX5 47 yX5_of cX5_of 3 (some .int) wsX5_of rm_X5_of 0 0 3 ∧ (Cond.static yX5_of).before args s = true :=
  va_cwS 3 hts gX5_loses_X5_of rfl rfl rfl (by decide +kernel) ⟨Nat.le_of_ble_eq_true rfl, Nat.le_of_ble_eq_true rfl⟩
set_option maxRecDepth 20000 in
theorem cw_X5_loses_X5_misses_51 {s : State} {args : Array Value} (hts : ∀ w ∈ wsX5_loses, w.before args s = true) : CallB rm_X5_loses s args RX5 51 yX5_misses cX5_misses 5 none wsX5_misses rm_X5_misses 0 0 4 ∧ (Cond.static yX5_misses).before args s = true :=
  va_cwS 4 hts gX5_loses_X5_misses rfl rfl rfl (by decide +kernel) ⟨Nat.le_of_ble_eq_true rfl, Nat.le_of_ble_eq_true rfl⟩
set_option maxRecDepth 20000 in
theorem cw_X5_loses_X5_leaves_55 {s : State} {args : Array Value} (hts : ∀ w ∈ wsX5_loses, w.before args s = true) : CallB rm_X5_loses s args RX5 55 yX5_leaves cX5_leaves 3 none wsX5_leaves rm_X5_leaves 0 0 2 ∧ (Cond.static yX5_leaves).before args s = true :=
  va_cwS 2 hts gX5_loses_X5_leaves rfl rfl rfl (by decide +kernel) ⟨Nat.le_of_ble_eq_true rfl, Nat.le_of_ble_eq_true rfl⟩
set_option maxHeartbeats 4000000 in
set_option maxRecDepth 100000 in
theorem c_X5_loses (l : Launch) (G : va_G) (cI cC cZ : ClassId) (X : List (ClassId × FieldType)) (s0 : Nat) (sf : Nat → Int32) (x1 : Int32) (x2 : Int32) (sf' : Nat → Int32) (hf : fX5_loses sf x1 x2 = some (sf')) : CT l yX5_loses wsX5_loses rm_X5_loses G (TY cI cC cZ X) [.ref s0, .int x1, .int x2] (wA1 cI s0 sf) none (wA1 cI s0 sf') := by
  refine CT.of (cc := cX5_loses) (maxL := 3) (ret := none) RX5 rfl (by decide) rfl (Nat.le_of_ble_eq_true rfl) ?_
  intro p e s m args below meth c A ls C hr hlocks hnm h hl
  have hx := C.hx
  have hb := C.hb
  have hl : lv_has ls 3 [(0, .ref s0), (1, .int x1), (2, .int x2)] := hl
  unfold fX5_loses at hf
  refine lv_aload_n hx hb dX5_loses_0 rfl (lv_at hl 0 rfl) ?_
  refine lv_aload_n hx hb dX5_loses_1 rfl (lv_at hl 0 rfl) ?_
  refine lv_iload_n hx hb dX5_loses_2 rfl (lv_at hl 1 rfl) ?_
  refine lv_iconst (v := 0) hx hb dX5_loses_3 (by decide) ?_
  obtain ⟨r_1, hq_2, hf⟩ := ob1_use hf
  refine r_callS C h (cw_X5_loses_X5_of_47 C.hts) (rest := [.ref s0]) (c_X5_of l G cI cC cZ X s0 sf x1 (0 : Int32) r_1 hq_2) [0] rfl rfl rfl rfl hl.1 rfl (Nat.le_of_ble_eq_true rfl) ⟨Nat.le_of_ble_eq_true rfl, Nat.le_of_ble_eq_true rfl⟩ (wA1 cI s0 sf) rfl rfl dX5_loses_4 (fun H locs h => ?_)
  refine lv_aload_n hx hb dX5_loses_7 rfl (lv_at hl 0 rfl) ?_
  refine lv_iload_n hx hb dX5_loses_8 rfl (lv_at hl 1 rfl) ?_
  refine lv_iconst (v := 1) hx hb dX5_loses_9 (by decide) ?_
  obtain ⟨r_3, hq_4, hf⟩ := ob1_use hf
  refine r_callS C h (cw_X5_loses_X5_of_47 C.hts) (rest := [.int r_1, .ref s0]) (c_X5_of l G cI cC cZ X s0 sf x1 (1 : Int32) r_3 hq_4) [0] rfl rfl rfl rfl hl.1 rfl (Nat.le_of_ble_eq_true rfl) ⟨Nat.le_of_ble_eq_true rfl, Nat.le_of_ble_eq_true rfl⟩ (wA1 cI s0 sf) rfl rfl dX5_loses_10 (fun H locs h => ?_)
  refine lv_iload_n hx hb dX5_loses_13 rfl (lv_at hl 2 rfl) ?_
  obtain ⟨sf_5, hq_6, hf⟩ := ob1_use hf
  refine r_callS C h (cw_X5_loses_X5_misses_51 C.hts) (rest := []) (c_X5_misses l G cI cC cZ X s0 sf r_1 r_3 x2 sf_5 hq_6) [0] rfl rfl rfl rfl hl.1 rfl (Nat.le_of_ble_eq_true rfl) ⟨Nat.le_of_ble_eq_true rfl, Nat.le_of_ble_eq_true rfl⟩ (wA1 cI s0 sf_5) rfl rfl dX5_loses_14 (fun H locs h => ?_)
  refine lv_aload_n hx hb dX5_loses_17 rfl (lv_at hl 0 rfl) ?_
  refine lv_iload_n hx hb dX5_loses_18 rfl (lv_at hl 1 rfl) ?_
  obtain ⟨sf_7, hq_8, hf⟩ := ob1_use hf
  refine r_callS C h (cw_X5_loses_X5_leaves_55 C.hts) (rest := []) (c_X5_leaves l G cI cC cZ X s0 sf_5 x1 sf_7 hq_8) [0] rfl rfl rfl rfl hl.1 rfl (Nat.le_of_ble_eq_true rfl) ⟨Nat.le_of_ble_eq_true rfl, Nat.le_of_ble_eq_true rfl⟩ (wA1 cI s0 sf_7) rfl rfl dX5_loses_19 (fun H locs h => ?_)
  cases hf
  exact r_vret C h hr hlocks dX5_loses_22
def rm_X5_queues : Room := { frames := 0, cells := 0, slots := 0, locals := 0 }
set_option maxHeartbeats 4000000 in
set_option maxRecDepth 100000 in
theorem c_X5_queues (l : Launch) (G : va_G) (cI cC cZ : ClassId) (X : List (ClassId × FieldType)) (s0 : Nat) (sf : Nat → Int32) (sf' : Nat → Int32) (hf : fX5_queues sf = some (sf')) : CT l yX5_queues wsX5_queues rm_X5_queues G (TY cI cC cZ X) [.ref s0] (wA1 cI s0 sf) none (wA1 cI s0 sf') := by
  refine CT.of (cc := cX5_queues) (maxL := 2) (ret := none) RX5 rfl (by decide) rfl (Nat.le_of_ble_eq_true rfl) ?_
  intro p e s m args below meth c A ls C hr hlocks hnm h hl
  have hx := C.hx
  have hb := C.hb
  have hl : lv_has ls 2 [(0, .ref s0)] := hl
  unfold fX5_queues at hf
  refine lv_bipush (v := 42) hx hb dX5_queues_0 (by decide) ?_
  refine lv_iconst (v := 4) hx hb dX5_queues_2 (by decide) ?_
  refine lv_aload_n hx hb dX5_queues_3 rfl (lv_at hl 0 rfl) ?_
  refine lv_bipush (v := 10) hx hb dX5_queues_4 (by decide) ?_
  refine r_ald C h 0 rfl rfl k_10_234 dX5_queues_6 ?_
  refine lv_imul hx hb dX5_queues_7 ?_
  refine lv_iadd hx hb dX5_queues_8 ?_
  refine lv_topi (fun x1_1 ex1_1 => ?_)
  replace hf := nm_use hf ex1_1
  refine lv_istore_n (lv' := [(1, .int x1_1), (0, .ref s0)]) hx hb dX5_queues_9 rfl hl (by decide) rfl (fun ls hl => ?_)
  refine lv_aload_n hx hb dX5_queues_10 rfl (lv_at hl 1 rfl) ?_
  refine lv_iload_n hx hb dX5_queues_11 rfl (lv_at hl 0 rfl) ?_
  refine lv_aload_n hx hb dX5_queues_12 rfl (lv_at hl 1 rfl) ?_
  refine lv_bipush (v := 17) hx hb dX5_queues_13 (by decide) ?_
  refine r_ald C h 0 rfl rfl k_17_234 dX5_queues_15 ?_
  obtain ⟨j_2, hj_2, hf⟩ := chk_use hf
  refine r_ast C h 0 rfl rfl hj_2 (fun z__ => (wA1 cI s0 z__)) (fun _ => rfl) dX5_queues_16 (fun sf_3 esf_3 H locs h => ?_)
  replace hf := nm_use hf esf_3
  refine lv_aload_n hx hb dX5_queues_17 rfl (lv_at hl 1 rfl) ?_
  refine lv_iload_n hx hb dX5_queues_18 rfl (lv_at hl 0 rfl) ?_
  refine lv_iconst (v := 1) hx hb dX5_queues_19 (by decide) ?_
  refine lv_iadd hx hb dX5_queues_20 ?_
  refine lv_aload_n hx hb dX5_queues_21 rfl (lv_at hl 1 rfl) ?_
  refine lv_bipush (v := 16) hx hb dX5_queues_22 (by decide) ?_
  refine r_ald C h 0 rfl rfl k_16_234 dX5_queues_24 ?_
  obtain ⟨j_4, hj_4, hf⟩ := chk_use hf
  refine r_ast C h 0 rfl rfl hj_4 (fun z__ => (wA1 cI s0 z__)) (fun _ => rfl) dX5_queues_25 (fun sf_5 esf_5 H locs h => ?_)
  replace hf := nm_use hf esf_5
  refine lv_aload_n hx hb dX5_queues_26 rfl (lv_at hl 1 rfl) ?_
  refine lv_iload_n hx hb dX5_queues_27 rfl (lv_at hl 0 rfl) ?_
  refine lv_iconst (v := 2) hx hb dX5_queues_28 (by decide) ?_
  refine lv_iadd hx hb dX5_queues_29 ?_
  refine lv_aload_n hx hb dX5_queues_30 rfl (lv_at hl 1 rfl) ?_
  refine lv_bipush (v := 26) hx hb dX5_queues_31 (by decide) ?_
  refine lv_aload_n hx hb dX5_queues_33 rfl (lv_at hl 1 rfl) ?_
  refine lv_bipush (v := 16) hx hb dX5_queues_34 (by decide) ?_
  refine r_ald C h 0 rfl rfl k_16_234 dX5_queues_36 ?_
  refine lv_iadd hx hb dX5_queues_37 ?_
  obtain ⟨j_6, hj_6, hf⟩ := chk_use hf
  refine r_ald C h 0 rfl rfl hj_6 dX5_queues_38 ?_
  refine lv_aload_n hx hb dX5_queues_39 rfl (lv_at hl 1 rfl) ?_
  refine lv_bipush (v := 8) hx hb dX5_queues_40 (by decide) ?_
  refine r_ald C h 0 rfl rfl k_8_234 dX5_queues_42 ?_
  refine lv_aload_n hx hb dX5_queues_43 rfl (lv_at hl 1 rfl) ?_
  refine lv_bipush (v := 17) hx hb dX5_queues_44 (by decide) ?_
  refine r_ald C h 0 rfl rfl k_17_234 dX5_queues_46 ?_
  refine lv_imul hx hb dX5_queues_47 ?_
  refine lv_iadd hx hb dX5_queues_48 ?_
  refine lv_sipush (v := 256) hx hb dX5_queues_49 (by decide) ?_
  refine lv_irem hx hb dX5_queues_52 (by decide) ?_
  obtain ⟨j_7, hj_7, hf⟩ := chk_use hf
  refine r_ast C h 0 rfl rfl hj_7 (fun z__ => (wA1 cI s0 z__)) (fun _ => rfl) dX5_queues_53 (fun sf_8 esf_8 H locs h => ?_)
  replace hf := nm_use hf esf_8
  refine lv_aload_n hx hb dX5_queues_54 rfl (lv_at hl 1 rfl) ?_
  refine lv_iload_n hx hb dX5_queues_55 rfl (lv_at hl 0 rfl) ?_
  refine lv_iconst (v := 3) hx hb dX5_queues_56 (by decide) ?_
  refine lv_iadd hx hb dX5_queues_57 ?_
  refine lv_iconst (v := 0) hx hb dX5_queues_58 (by decide) ?_
  obtain ⟨j_9, hj_9, hf⟩ := chk_use hf
  refine r_ast C h 0 rfl rfl hj_9 (fun z__ => (wA1 cI s0 z__)) (fun _ => rfl) dX5_queues_59 (fun sf_10 esf_10 H locs h => ?_)
  replace hf := nm_use hf esf_10
  refine lv_aload_n hx hb dX5_queues_60 rfl (lv_at hl 1 rfl) ?_
  refine lv_bipush (v := 10) hx hb dX5_queues_61 (by decide) ?_
  refine lv_dup2_11 hx hb dX5_queues_63 rfl rfl ?_
  refine r_ald C h 0 rfl rfl k_10_234 dX5_queues_64 ?_
  refine lv_iconst (v := 1) hx hb dX5_queues_65 (by decide) ?_
  refine lv_iadd hx hb dX5_queues_66 ?_
  refine r_ast C h 0 rfl rfl k_10_234 (fun z__ => (wA1 cI s0 z__)) (fun _ => rfl) dX5_queues_67 (fun sf_11 esf_11 H locs h => ?_)
  replace hf := nm_use hf esf_11
  cases hf
  exact r_vret C h hr hlocks dX5_queues_68
def rm_X5_firstFresh : Room := { frames := 1, cells := 0, slots := 0, locals := 22 }
set_option maxRecDepth 20000 in
theorem cw_X5_firstFresh_X5_of_47 {s : State} {args : Array Value} (hts : ∀ w ∈ wsX5_firstFresh, w.before args s = true) : CallB rm_X5_firstFresh s args RX5 47 yX5_of cX5_of 3 (some .int) wsX5_of rm_X5_of 0 0 3 ∧ (Cond.static yX5_of).before args s = true :=
  va_cwS 3 hts gX5_firstFresh_X5_of rfl rfl rfl (by decide +kernel) ⟨Nat.le_of_ble_eq_true rfl, Nat.le_of_ble_eq_true rfl⟩
set_option maxHeartbeats 4000000 in
set_option maxRecDepth 100000 in
theorem c_X5_firstFresh (l : Launch) (G : va_G) (cI cC cZ : ClassId) (X : List (ClassId × FieldType)) (s0 : Nat) (sf : Nat → Int32) (rv : Int32) (hf : fX5_firstFresh sf = some (rv)) : CT l yX5_firstFresh wsX5_firstFresh rm_X5_firstFresh G (TY cI cC cZ X) [.ref s0] (wA1 cI s0 sf) (some (.int rv)) (wA1 cI s0 sf) := by
  refine CT.of (cc := cX5_firstFresh) (maxL := 2) (ret := (some .int)) RX5 rfl (by decide) rfl (Nat.le_of_ble_eq_true rfl) ?_
  intro p e s m args below meth c A ls C hr hlocks hnm h hl
  have hx := C.hx
  have hb := C.hb
  have hl : lv_has ls 2 [(0, .ref s0)] := hl
  have cut_2 : ∀ (n : Nat) (x1 : Int32) (H : Heap) (locs : List Loc) (ls : Array Slot), Hx s G A (wA1 cI s0 sf) H locs → lv_has ls 2 [(0, .ref s0), (1, .int x1)] → fX5_firstFresh_2 n sf x1 = some (rv) → W p l e rm_X5_firstFresh s m args below meth c H locs 0 0 (MQ below (Qx G (some (.int rv)) (wA1 cI s0 sf) A) args s 0 0 A) (F0 m 2 ls []) := by
    intro n
    induction n with
    | zero =>
      intro x1 H locs ls h hl hf
      exact (nn_some _ hf).elim
    | succ n ih =>
      intro x1 H locs ls h hl hf
      have hf : fX5_firstFresh_2_b (fX5_firstFresh_2 n) sf x1 = some (rv) := hf
      unfold fX5_firstFresh_2_b at hf
      refine lv_iload_n hx hb dX5_firstFresh_2 rfl (lv_at hl 1 rfl) ?_
      refine lv_aload_n hx hb dX5_firstFresh_3 rfl (lv_at hl 0 rfl) ?_
      refine lv_bipush (v := 10) hx hb dX5_firstFresh_4 (by decide) ?_
      refine r_ald C h 0 rfl rfl k_10_234 dX5_firstFresh_6 ?_
      refine lv_icmp_ge (tgt := 27) hx hb dX5_firstFresh_7 (by decide) (fun hc => ?_) (fun hc => ?_)
      · replace hf := it_t hf hc
        refine lv_bipush (v := (-6)) hx hb dX5_firstFresh_27 (by decide) ?_
        cases hf
        exact r_iret C h hr hlocks dX5_firstFresh_29
      · replace hf := it_f hf hc
        refine lv_aload_n hx hb dX5_firstFresh_10 rfl (lv_at hl 0 rfl) ?_
        refine lv_iload_n hx hb dX5_firstFresh_11 rfl (lv_at hl 1 rfl) ?_
        refine lv_iconst (v := 3) hx hb dX5_firstFresh_12 (by decide) ?_
        obtain ⟨r_1, hq_2, hf⟩ := ob1_use hf
        refine r_callS C h (cw_X5_firstFresh_X5_of_47 C.hts) (rest := []) (c_X5_of l G cI cC cZ X s0 sf x1 (3 : Int32) r_1 hq_2) [0] rfl rfl rfl rfl hl.1 rfl (Nat.le_of_ble_eq_true rfl) ⟨Nat.le_of_ble_eq_true rfl, Nat.le_of_ble_eq_true rfl⟩ (wA1 cI s0 sf) rfl rfl dX5_firstFresh_13 (fun H locs h => ?_)
        refine lv_if_ne (tgt := 21) hx hb dX5_firstFresh_16 (by decide) (fun hc => ?_) (fun hc => ?_)
        · replace hf := it_f hf hc
          obtain ⟨x1_3, ex1_3⟩ : ∃ y : Int32, y = x1 + 1 := ⟨_, rfl⟩
          replace hf := nm_use hf ex1_3
          refine lv_iinc (v := x1_3) (lv' := [(1, .int x1_3), (0, .ref s0)]) hx hb dX5_firstFresh_21 hl (k := 1) rfl (by rw [ex1_3]; rfl) (by decide) rfl (fun ls hl => ?_)
          refine lv_goto (tgt := 2) hx hb dX5_firstFresh_24 (by decide) ?_
          exact ih x1_3 _ _ _ h (lv_sub hl [1, 0] rfl) hf
        · replace hf := it_t hf hc
          refine lv_iload_n hx hb dX5_firstFresh_19 rfl (lv_at hl 1 rfl) ?_
          cases hf
          exact r_iret C h hr hlocks dX5_firstFresh_20
  unfold fX5_firstFresh at hf
  refine lv_iconst (v := 0) hx hb dX5_firstFresh_0 (by decide) ?_
  refine lv_istore_n (lv' := [(1, .int 0), (0, .ref s0)]) hx hb dX5_firstFresh_1 rfl hl (by decide) rfl (fun ls hl => ?_)
  exact cut_2 KF 0 _ _ _ h (lv_sub hl [1, 0] rfl) hf
def rm_X5_comes : Room := { frames := 2, cells := 0, slots := 0, locals := 46 }
set_option maxRecDepth 20000 in
theorem cw_X5_comes_X5_loses_67 {s : State} {args : Array Value} (hts : ∀ w ∈ wsX5_comes, w.before args s = true) : CallB rm_X5_comes s args RX5 67 yX5_loses cX5_loses 3 none wsX5_loses rm_X5_loses 0 0 3 ∧ (Cond.static yX5_loses).before args s = true :=
  va_cwS 3 hts gX5_comes_X5_loses rfl rfl rfl (by decide +kernel) ⟨Nat.le_of_ble_eq_true rfl, Nat.le_of_ble_eq_true rfl⟩
set_option maxRecDepth 20000 in
theorem cw_X5_comes_X5_queues_63 {s : State} {args : Array Value} (hts : ∀ w ∈ wsX5_comes, w.before args s = true) : CallB rm_X5_comes s args RX5 63 yX5_queues cX5_queues 2 none wsX5_queues rm_X5_queues 0 0 1 ∧ (Cond.static yX5_queues).before args s = true :=
  va_cwS 1 hts gX5_comes_X5_queues rfl rfl rfl (by decide +kernel) ⟨Nat.le_of_ble_eq_true rfl, Nat.le_of_ble_eq_true rfl⟩
set_option maxRecDepth 20000 in
theorem cw_X5_comes_X5_misses_51 {s : State} {args : Array Value} (hts : ∀ w ∈ wsX5_comes, w.before args s = true) : CallB rm_X5_comes s args RX5 51 yX5_misses cX5_misses 5 none wsX5_misses rm_X5_misses 0 0 4 ∧ (Cond.static yX5_misses).before args s = true :=
  va_cwS 4 hts gX5_comes_X5_misses rfl rfl rfl (by decide +kernel) ⟨Nat.le_of_ble_eq_true rfl, Nat.le_of_ble_eq_true rfl⟩
set_option maxRecDepth 20000 in
theorem cw_X5_comes_X5_firstFresh_59 {s : State} {args : Array Value} (hts : ∀ w ∈ wsX5_comes, w.before args s = true) : CallB rm_X5_comes s args RX5 59 yX5_firstFresh cX5_firstFresh 2 (some .int) wsX5_firstFresh rm_X5_firstFresh 0 0 1 ∧ (Cond.static yX5_firstFresh).before args s = true :=
  va_cwS 1 hts gX5_comes_X5_firstFresh rfl rfl rfl (by decide +kernel) ⟨Nat.le_of_ble_eq_true rfl, Nat.le_of_ble_eq_true rfl⟩
set_option maxHeartbeats 4000000 in
set_option maxRecDepth 100000 in
theorem c_X5_comes (l : Launch) (G : va_G) (cI cC cZ : ClassId) (X : List (ClassId × FieldType)) (s0 : Nat) (sf : Nat → Int32) (sf' : Nat → Int32) (hf : fX5_comes sf = some (sf')) : CT l yX5_comes wsX5_comes rm_X5_comes G (TY cI cC cZ X) [.ref s0] (wA1 cI s0 sf) none (wA1 cI s0 sf') := by
  refine CT.of (cc := cX5_comes) (maxL := 2) (ret := none) RX5 rfl (by decide) rfl (Nat.le_of_ble_eq_true rfl) ?_
  intro p e s m args below meth c A ls C hr hlocks hnm h hl
  have hx := C.hx
  have hb := C.hb
  have hl : lv_has ls 2 [(0, .ref s0)] := hl
  have cut_105 : ∀ (sf : Nat → Int32) (H : Heap) (locs : List Loc) (ls : Array Slot), Hx s G A (wA1 cI s0 sf) H locs → lv_has ls 2 [(0, .ref s0)] → fX5_comes_105 sf = some (sf') → W p l e rm_X5_comes s m args below meth c H locs 0 0 (MQ below (Qx G none (wA1 cI s0 sf') A) args s 0 0 A) (F0 m 105 ls []) := by
    intro sf H locs ls h hl hf
    unfold fX5_comes_105 at hf
    refine lv_aload_n hx hb dX5_comes_105 rfl (lv_at hl 0 rfl) ?_
    refine lv_bipush (v := 18) hx hb dX5_comes_106 (by decide) ?_
    refine lv_dup2_11 hx hb dX5_comes_108 rfl rfl ?_
    refine r_ald C h 0 rfl rfl k_18_234 dX5_comes_109 ?_
    refine lv_aload_n hx hb dX5_comes_110 rfl (lv_at hl 0 rfl) ?_
    refine lv_iconst (v := 1) hx hb dX5_comes_111 (by decide) ?_
    refine r_ald C h 0 rfl rfl k_1_234 dX5_comes_112 ?_
    refine lv_iadd hx hb dX5_comes_113 ?_
    refine r_ast C h 0 rfl rfl k_18_234 (fun z__ => (wA1 cI s0 z__)) (fun _ => rfl) dX5_comes_114 (fun sf_1 esf_1 H locs h => ?_)
    replace hf := nm_use hf esf_1
    cases hf
    exact r_vret C h hr hlocks dX5_comes_115
  have cut_74 : ∀ (sf : Nat → Int32) (H : Heap) (locs : List Loc) (ls : Array Slot), Hx s G A (wA1 cI s0 sf) H locs → lv_has ls 2 [(0, .ref s0)] → fX5_comes_74 sf = some (sf') → W p l e rm_X5_comes s m args below meth c H locs 0 0 (MQ below (Qx G none (wA1 cI s0 sf') A) args s 0 0 A) (F0 m 74 ls []) := by
    intro sf H locs ls h hl hf
    unfold fX5_comes_74 at hf
    refine lv_aload_n hx hb dX5_comes_74 rfl (lv_at hl 0 rfl) ?_
    refine lv_bipush (v := 16) hx hb dX5_comes_75 (by decide) ?_
    refine lv_dup2_11 hx hb dX5_comes_77 rfl rfl ?_
    refine r_ald C h 0 rfl rfl k_16_234 dX5_comes_78 ?_
    refine lv_iconst (v := 1) hx hb dX5_comes_79 (by decide) ?_
    refine lv_iadd hx hb dX5_comes_80 ?_
    refine r_ast C h 0 rfl rfl k_16_234 (fun z__ => (wA1 cI s0 z__)) (fun _ => rfl) dX5_comes_81 (fun sf_1 esf_1 H locs h => ?_)
    replace hf := nm_use hf esf_1
    refine lv_aload_n hx hb dX5_comes_82 rfl (lv_at hl 0 rfl) ?_
    refine lv_bipush (v := 16) hx hb dX5_comes_83 (by decide) ?_
    refine r_ald C h 0 rfl rfl k_16_234 dX5_comes_85 ?_
    refine lv_aload_n hx hb dX5_comes_86 rfl (lv_at hl 0 rfl) ?_
    refine lv_iconst (v := 4) hx hb dX5_comes_87 (by decide) ?_
    refine r_ald C h 0 rfl rfl k_4_234 dX5_comes_88 ?_
    refine lv_icmp_lt (tgt := 105) hx hb dX5_comes_89 (by decide) (fun hc => ?_) (fun hc => ?_)
    · replace hf := it_t hf hc
      exact cut_105 sf_1 _ _ _ h (lv_sub hl [0] rfl) hf
    · replace hf := it_f hf hc
      refine lv_aload_n hx hb dX5_comes_92 rfl (lv_at hl 0 rfl) ?_
      refine lv_bipush (v := 16) hx hb dX5_comes_93 (by decide) ?_
      refine lv_iconst (v := 0) hx hb dX5_comes_95 (by decide) ?_
      refine r_ast C h 0 rfl rfl k_16_234 (fun z__ => (wA1 cI s0 z__)) (fun _ => rfl) dX5_comes_96 (fun sf_2 esf_2 H locs h => ?_)
      replace hf := nm_use hf esf_2
      refine lv_aload_n hx hb dX5_comes_97 rfl (lv_at hl 0 rfl) ?_
      refine lv_bipush (v := 17) hx hb dX5_comes_98 (by decide) ?_
      refine lv_dup2_11 hx hb dX5_comes_100 rfl rfl ?_
      refine r_ald C h 0 rfl rfl k_17_234 dX5_comes_101 ?_
      refine lv_iconst (v := 1) hx hb dX5_comes_102 (by decide) ?_
      refine lv_iadd hx hb dX5_comes_103 ?_
      refine r_ast C h 0 rfl rfl k_17_234 (fun z__ => (wA1 cI s0 z__)) (fun _ => rfl) dX5_comes_104 (fun sf_3 esf_3 H locs h => ?_)
      replace hf := nm_use hf esf_3
      exact cut_105 sf_3 _ _ _ h (lv_sub hl [0] rfl) hf
  unfold fX5_comes at hf
  refine lv_aload_n hx hb dX5_comes_0 rfl (lv_at hl 0 rfl) ?_
  refine lv_bipush (v := 9) hx hb dX5_comes_1 (by decide) ?_
  refine lv_dup2_11 hx hb dX5_comes_3 rfl rfl ?_
  refine r_ald C h 0 rfl rfl k_9_234 dX5_comes_4 ?_
  refine lv_iconst (v := 1) hx hb dX5_comes_5 (by decide) ?_
  refine lv_iadd hx hb dX5_comes_6 ?_
  refine r_ast C h 0 rfl rfl k_9_234 (fun z__ => (wA1 cI s0 z__)) (fun _ => rfl) dX5_comes_7 (fun sf_1 esf_1 H locs h => ?_)
  replace hf := nm_use hf esf_1
  refine lv_aload_n hx hb dX5_comes_8 rfl (lv_at hl 0 rfl) ?_
  refine lv_iconst (v := 5) hx hb dX5_comes_9 (by decide) ?_
  refine r_ald C h 0 rfl rfl k_5_234 dX5_comes_10 ?_
  refine lv_iconst (v := 1) hx hb dX5_comes_11 (by decide) ?_
  refine lv_icmp_ne (tgt := 22) hx hb dX5_comes_12 (by decide) (fun hc => ?_) (fun hc => ?_)
  · replace hf := it_f hf hc
    refine lv_bipush (v := (-6)) hx hb dX5_comes_22 (by decide) ?_
    refine lv_topi (fun x1_2 ex1_2 => ?_)
    replace hf := nm_use hf ex1_2
    refine lv_istore_n (lv' := [(1, .int x1_2), (0, .ref s0)]) hx hb dX5_comes_24 rfl hl (by decide) rfl (fun ls hl => ?_)
    refine lv_aload_n hx hb dX5_comes_25 rfl (lv_at hl 1 rfl) ?_
    refine lv_bipush (v := 10) hx hb dX5_comes_26 (by decide) ?_
    refine r_ald C h 0 rfl rfl k_10_234 dX5_comes_28 ?_
    refine lv_aload_n hx hb dX5_comes_29 rfl (lv_at hl 1 rfl) ?_
    refine lv_iconst (v := 3) hx hb dX5_comes_30 (by decide) ?_
    refine r_ald C h 0 rfl rfl k_3_234 dX5_comes_31 ?_
    refine lv_icmp_ge (tgt := 42) hx hb dX5_comes_32 (by decide) (fun hc => ?_) (fun hc => ?_)
    · replace hf := it_t hf hc
      refine lv_iload_n hx hb dX5_comes_42 rfl (lv_at hl 0 rfl) ?_
      refine lv_bipush (v := (-6)) hx hb dX5_comes_43 (by decide) ?_
      refine lv_icmp_ne (tgt := 64) hx hb dX5_comes_45 (by decide) (fun hc => ?_) (fun hc => ?_)
      · replace hf := it_f hf hc
        refine lv_aload_n hx hb dX5_comes_64 rfl (lv_at hl 1 rfl) ?_
        refine lv_iload_n hx hb dX5_comes_65 rfl (lv_at hl 0 rfl) ?_
        refine lv_iconst (v := 1) hx hb dX5_comes_66 (by decide) ?_
        obtain ⟨sf_3, hq_4, hf⟩ := ob1_use hf
        refine r_callS C h (cw_X5_comes_X5_loses_67 C.hts) (rest := []) (c_X5_loses l G cI cC cZ X s0 sf_1 x1_2 (1 : Int32) sf_3 hq_4) [0] rfl rfl rfl rfl hl.1 rfl (Nat.le_of_ble_eq_true rfl) ⟨Nat.le_of_ble_eq_true rfl, Nat.le_of_ble_eq_true rfl⟩ (wA1 cI s0 sf_3) rfl rfl dX5_comes_67 (fun H locs h => ?_)
        refine lv_aload_n hx hb dX5_comes_70 rfl (lv_at hl 1 rfl) ?_
        obtain ⟨sf_5, hq_6, hf⟩ := ob1_use hf
        refine r_callS C h (cw_X5_comes_X5_queues_63 C.hts) (rest := []) (c_X5_queues l G cI cC cZ X s0 sf_3 sf_5 hq_6) [0] rfl rfl rfl rfl hl.1 rfl (Nat.le_of_ble_eq_true rfl) ⟨Nat.le_of_ble_eq_true rfl, Nat.le_of_ble_eq_true rfl⟩ (wA1 cI s0 sf_5) rfl rfl dX5_comes_71 (fun H locs h => ?_)
        exact cut_74 sf_5 _ _ _ h (lv_sub hl [1] rfl) hf
      · replace hf := it_t hf hc
        refine lv_aload_n hx hb dX5_comes_48 rfl (lv_at hl 1 rfl) ?_
        refine lv_aload_n hx hb dX5_comes_49 rfl (lv_at hl 1 rfl) ?_
        refine lv_bipush (v := 17) hx hb dX5_comes_50 (by decide) ?_
        refine r_ald C h 0 rfl rfl k_17_234 dX5_comes_52 ?_
        refine lv_aload_n hx hb dX5_comes_53 rfl (lv_at hl 1 rfl) ?_
        refine lv_bipush (v := 16) hx hb dX5_comes_54 (by decide) ?_
        refine r_ald C h 0 rfl rfl k_16_234 dX5_comes_56 ?_
        refine lv_iconst (v := 0) hx hb dX5_comes_57 (by decide) ?_
        obtain ⟨sf_7, hq_8, hf⟩ := ob1_use hf
        refine r_callS C h (cw_X5_comes_X5_misses_51 C.hts) (rest := []) (c_X5_misses l G cI cC cZ X s0 sf_1 (sf_1 17) (sf_1 16) (0 : Int32) sf_7 hq_8) [0] rfl rfl rfl rfl hl.1 rfl (Nat.le_of_ble_eq_true rfl) ⟨Nat.le_of_ble_eq_true rfl, Nat.le_of_ble_eq_true rfl⟩ (wA1 cI s0 sf_7) rfl rfl dX5_comes_58 (fun H locs h => ?_)
        refine lv_goto (tgt := 74) hx hb dX5_comes_61 (by decide) ?_
        exact cut_74 sf_7 _ _ _ h (lv_sub hl [1] rfl) hf
    · replace hf := it_f hf hc
      refine lv_aload_n hx hb dX5_comes_35 rfl (lv_at hl 1 rfl) ?_
      obtain ⟨sf_9, hq_10, hf⟩ := ob1_use hf
      refine r_callS C h (cw_X5_comes_X5_queues_63 C.hts) (rest := []) (c_X5_queues l G cI cC cZ X s0 sf_1 sf_9 hq_10) [0] rfl rfl rfl rfl hl.1 rfl (Nat.le_of_ble_eq_true rfl) ⟨Nat.le_of_ble_eq_true rfl, Nat.le_of_ble_eq_true rfl⟩ (wA1 cI s0 sf_9) rfl rfl dX5_comes_36 (fun H locs h => ?_)
      refine lv_goto (tgt := 74) hx hb dX5_comes_39 (by decide) ?_
      exact cut_74 sf_9 _ _ _ h (lv_sub hl [1] rfl) hf
  · replace hf := it_t hf hc
    refine lv_aload_n hx hb dX5_comes_15 rfl (lv_at hl 0 rfl) ?_
    obtain ⟨r_11, hq_12, hf⟩ := ob1_use hf
    refine r_callS C h (cw_X5_comes_X5_firstFresh_59 C.hts) (rest := []) (c_X5_firstFresh l G cI cC cZ X s0 sf_1 r_11 hq_12) [0] rfl rfl rfl rfl hl.1 rfl (Nat.le_of_ble_eq_true rfl) ⟨Nat.le_of_ble_eq_true rfl, Nat.le_of_ble_eq_true rfl⟩ (wA1 cI s0 sf_1) rfl rfl dX5_comes_16 (fun H locs h => ?_)
    refine lv_goto (tgt := 24) hx hb dX5_comes_19 (by decide) ?_
    refine lv_istore_n (lv' := [(1, .int r_11), (0, .ref s0)]) hx hb dX5_comes_24 rfl hl (by decide) rfl (fun ls hl => ?_)
    refine lv_aload_n hx hb dX5_comes_25 rfl (lv_at hl 1 rfl) ?_
    refine lv_bipush (v := 10) hx hb dX5_comes_26 (by decide) ?_
    refine r_ald C h 0 rfl rfl k_10_234 dX5_comes_28 ?_
    refine lv_aload_n hx hb dX5_comes_29 rfl (lv_at hl 1 rfl) ?_
    refine lv_iconst (v := 3) hx hb dX5_comes_30 (by decide) ?_
    refine r_ald C h 0 rfl rfl k_3_234 dX5_comes_31 ?_
    refine lv_icmp_ge (tgt := 42) hx hb dX5_comes_32 (by decide) (fun hc => ?_) (fun hc => ?_)
    · replace hf := it_t hf hc
      refine lv_iload_n hx hb dX5_comes_42 rfl (lv_at hl 0 rfl) ?_
      refine lv_bipush (v := (-6)) hx hb dX5_comes_43 (by decide) ?_
      refine lv_icmp_ne (tgt := 64) hx hb dX5_comes_45 (by decide) (fun hc => ?_) (fun hc => ?_)
      · replace hf := it_f hf hc
        refine lv_aload_n hx hb dX5_comes_64 rfl (lv_at hl 1 rfl) ?_
        refine lv_iload_n hx hb dX5_comes_65 rfl (lv_at hl 0 rfl) ?_
        refine lv_iconst (v := 1) hx hb dX5_comes_66 (by decide) ?_
        obtain ⟨sf_13, hq_14, hf⟩ := ob1_use hf
        refine r_callS C h (cw_X5_comes_X5_loses_67 C.hts) (rest := []) (c_X5_loses l G cI cC cZ X s0 sf_1 r_11 (1 : Int32) sf_13 hq_14) [0] rfl rfl rfl rfl hl.1 rfl (Nat.le_of_ble_eq_true rfl) ⟨Nat.le_of_ble_eq_true rfl, Nat.le_of_ble_eq_true rfl⟩ (wA1 cI s0 sf_13) rfl rfl dX5_comes_67 (fun H locs h => ?_)
        refine lv_aload_n hx hb dX5_comes_70 rfl (lv_at hl 1 rfl) ?_
        obtain ⟨sf_15, hq_16, hf⟩ := ob1_use hf
        refine r_callS C h (cw_X5_comes_X5_queues_63 C.hts) (rest := []) (c_X5_queues l G cI cC cZ X s0 sf_13 sf_15 hq_16) [0] rfl rfl rfl rfl hl.1 rfl (Nat.le_of_ble_eq_true rfl) ⟨Nat.le_of_ble_eq_true rfl, Nat.le_of_ble_eq_true rfl⟩ (wA1 cI s0 sf_15) rfl rfl dX5_comes_71 (fun H locs h => ?_)
        exact cut_74 sf_15 _ _ _ h (lv_sub hl [1] rfl) hf
      · replace hf := it_t hf hc
        refine lv_aload_n hx hb dX5_comes_48 rfl (lv_at hl 1 rfl) ?_
        refine lv_aload_n hx hb dX5_comes_49 rfl (lv_at hl 1 rfl) ?_
        refine lv_bipush (v := 17) hx hb dX5_comes_50 (by decide) ?_
        refine r_ald C h 0 rfl rfl k_17_234 dX5_comes_52 ?_
        refine lv_aload_n hx hb dX5_comes_53 rfl (lv_at hl 1 rfl) ?_
        refine lv_bipush (v := 16) hx hb dX5_comes_54 (by decide) ?_
        refine r_ald C h 0 rfl rfl k_16_234 dX5_comes_56 ?_
        refine lv_iconst (v := 0) hx hb dX5_comes_57 (by decide) ?_
        obtain ⟨sf_17, hq_18, hf⟩ := ob1_use hf
        refine r_callS C h (cw_X5_comes_X5_misses_51 C.hts) (rest := []) (c_X5_misses l G cI cC cZ X s0 sf_1 (sf_1 17) (sf_1 16) (0 : Int32) sf_17 hq_18) [0] rfl rfl rfl rfl hl.1 rfl (Nat.le_of_ble_eq_true rfl) ⟨Nat.le_of_ble_eq_true rfl, Nat.le_of_ble_eq_true rfl⟩ (wA1 cI s0 sf_17) rfl rfl dX5_comes_58 (fun H locs h => ?_)
        refine lv_goto (tgt := 74) hx hb dX5_comes_61 (by decide) ?_
        exact cut_74 sf_17 _ _ _ h (lv_sub hl [1] rfl) hf
    · replace hf := it_f hf hc
      refine lv_aload_n hx hb dX5_comes_35 rfl (lv_at hl 1 rfl) ?_
      obtain ⟨sf_19, hq_20, hf⟩ := ob1_use hf
      refine r_callS C h (cw_X5_comes_X5_queues_63 C.hts) (rest := []) (c_X5_queues l G cI cC cZ X s0 sf_1 sf_19 hq_20) [0] rfl rfl rfl rfl hl.1 rfl (Nat.le_of_ble_eq_true rfl) ⟨Nat.le_of_ble_eq_true rfl, Nat.le_of_ble_eq_true rfl⟩ (wA1 cI s0 sf_19) rfl rfl dX5_comes_36 (fun H locs h => ?_)
      refine lv_goto (tgt := 74) hx hb dX5_comes_39 (by decide) ?_
      exact cut_74 sf_19 _ _ _ h (lv_sub hl [1] rfl) hf
def rm_X5_isBegin : Room := { frames := 1, cells := 0, slots := 0, locals := 22 }
set_option maxRecDepth 20000 in
theorem cw_X5_isBegin_X5_of_47 {s : State} {args : Array Value} (hts : ∀ w ∈ wsX5_isBegin, w.before args s = true) : CallB rm_X5_isBegin s args RX5 47 yX5_of cX5_of 3 (some .int) wsX5_of rm_X5_of 0 0 3 ∧ (Cond.static yX5_of).before args s = true :=
  va_cwS 3 hts gX5_isBegin_X5_of rfl rfl rfl (by decide +kernel) ⟨Nat.le_of_ble_eq_true rfl, Nat.le_of_ble_eq_true rfl⟩
set_option maxHeartbeats 4000000 in
set_option maxRecDepth 100000 in
theorem c_X5_isBegin (l : Launch) (G : va_G) (cI cC cZ : ClassId) (X : List (ClassId × FieldType)) (s0 : Nat) (sf : Nat → Int32) (rv : Int32) (hf : fX5_isBegin sf = some (rv)) : CT l yX5_isBegin wsX5_isBegin rm_X5_isBegin G (TY cI cC cZ X) [.ref s0] (wA1 cI s0 sf) (some (.int rv)) (wA1 cI s0 sf) := by
  refine CT.of (cc := cX5_isBegin) (maxL := 1) (ret := (some .boolean)) RX5 rfl (by decide) rfl (Nat.le_of_ble_eq_true rfl) ?_
  intro p e s m args below meth c A ls C hr hlocks hnm h hl
  have hx := C.hx
  have hb := C.hb
  have hl : lv_has ls 1 [(0, .ref s0)] := hl
  unfold fX5_isBegin at hf
  refine lv_aload_n hx hb dX5_isBegin_0 rfl (lv_at hl 0 rfl) ?_
  refine lv_iconst (v := 0) hx hb dX5_isBegin_1 (by decide) ?_
  refine lv_iconst (v := 1) hx hb dX5_isBegin_2 (by decide) ?_
  obtain ⟨r_1, hq_2, hf⟩ := ob1_use hf
  refine r_callS C h (cw_X5_isBegin_X5_of_47 C.hts) (rest := []) (c_X5_of l G cI cC cZ X s0 sf (0 : Int32) (1 : Int32) r_1 hq_2) [0] rfl rfl rfl rfl hl.1 rfl (Nat.le_of_ble_eq_true rfl) ⟨Nat.le_of_ble_eq_true rfl, Nat.le_of_ble_eq_true rfl⟩ (wA1 cI s0 sf) rfl rfl dX5_isBegin_3 (fun H locs h => ?_)
  refine lv_if_ne (tgt := 22) hx hb dX5_isBegin_6 (by decide) (fun hc => ?_) (fun hc => ?_)
  · replace hf := it_f hf hc
    refine lv_iconst (v := 0) hx hb dX5_isBegin_22 (by decide) ?_
    cases hf
    exact r_zret C h hr hlocks rfl dX5_isBegin_23
  · replace hf := it_t hf hc
    refine lv_aload_n hx hb dX5_isBegin_9 rfl (lv_at hl 0 rfl) ?_
    refine lv_iconst (v := 0) hx hb dX5_isBegin_10 (by decide) ?_
    refine lv_iconst (v := 3) hx hb dX5_isBegin_11 (by decide) ?_
    obtain ⟨r_3, hq_4, hf⟩ := ob1_use hf
    refine r_callS C h (cw_X5_isBegin_X5_of_47 C.hts) (rest := []) (c_X5_of l G cI cC cZ X s0 sf (0 : Int32) (3 : Int32) r_3 hq_4) [0] rfl rfl rfl rfl hl.1 rfl (Nat.le_of_ble_eq_true rfl) ⟨Nat.le_of_ble_eq_true rfl, Nat.le_of_ble_eq_true rfl⟩ (wA1 cI s0 sf) rfl rfl dX5_isBegin_12 (fun H locs h => ?_)
    refine lv_if_ne (tgt := 22) hx hb dX5_isBegin_15 (by decide) (fun hc => ?_) (fun hc => ?_)
    · replace hf := it_f hf hc
      refine lv_iconst (v := 0) hx hb dX5_isBegin_22 (by decide) ?_
      cases hf
      exact r_zret C h hr hlocks rfl dX5_isBegin_23
    · replace hf := it_t hf hc
      refine lv_iconst (v := 1) hx hb dX5_isBegin_18 (by decide) ?_
      refine lv_goto (tgt := 23) hx hb dX5_isBegin_19 (by decide) ?_
      cases hf
      exact r_zret C h hr hlocks rfl dX5_isBegin_23
def rm_X5_judged : Room := { frames := 0, cells := 0, slots := 0, locals := 0 }
set_option maxHeartbeats 4000000 in
set_option maxRecDepth 100000 in
theorem c_X5_judged (l : Launch) (G : va_G) (cI cC cZ : ClassId) (X : List (ClassId × FieldType)) (s0 : Nat) (sf : Nat → Int32) (rv : Int32) (hf : fX5_judged sf = some (rv)) : CT l yX5_judged wsX5_judged rm_X5_judged G (TY cI cC cZ X) [.ref s0] (wA1 cI s0 sf) (some (.int rv)) (wA1 cI s0 sf) := by
  refine CT.of (cc := cX5_judged) (maxL := 4) (ret := (some .int)) RX5 rfl (by decide) rfl (Nat.le_of_ble_eq_true rfl) ?_
  intro p e s m args below meth c A ls C hr hlocks hnm h hl
  have hx := C.hx
  have hb := C.hb
  have hl : lv_has ls 4 [(0, .ref s0)] := hl
  have cut_6 : ∀ (n : Nat) (x1 : Int32) (x2 : Int32) (x3 : Int32) (H : Heap) (locs : List Loc) (ls : Array Slot), Hx s G A (wA1 cI s0 sf) H locs → lv_has ls 4 [(0, .ref s0), (1, .int x1), (2, .int x2), (3, .int x3)] → fX5_judged_6 n sf x1 x2 x3 = some (rv) → W p l e rm_X5_judged s m args below meth c H locs 0 0 (MQ below (Qx G (some (.int rv)) (wA1 cI s0 sf) A) args s 0 0 A) (F0 m 6 ls []) := by
    intro n
    induction n with
    | zero =>
      intro x1 x2 x3 H locs ls h hl hf
      exact (nn_some _ hf).elim
    | succ n ih =>
      intro x1 x2 x3 H locs ls h hl hf
      have hf : fX5_judged_6_b (fX5_judged_6 n) sf x1 x2 x3 = some (rv) := hf
      unfold fX5_judged_6_b at hf
      refine lv_iload_n hx hb dX5_judged_6 rfl (lv_at hl 3 rfl) ?_
      refine lv_iconst (v := 2) hx hb dX5_judged_7 (by decide) ?_
      refine lv_aload_n hx hb dX5_judged_8 rfl (lv_at hl 0 rfl) ?_
      refine lv_iconst (v := 4) hx hb dX5_judged_9 (by decide) ?_
      refine r_ald C h 0 rfl rfl k_4_234 dX5_judged_10 ?_
      refine lv_imul hx hb dX5_judged_11 ?_
      refine lv_icmp_ge (tgt := 89) hx hb dX5_judged_12 (by decide) (fun hc => ?_) (fun hc => ?_)
      · replace hf := it_t hf hc
        refine lv_iload_n hx hb dX5_judged_89 rfl (lv_at hl 1 rfl) ?_
        refine lv_if_eq (tgt := 97) hx hb dX5_judged_90 (by decide) (fun hc => ?_) (fun hc => ?_)
        · replace hf := it_t hf hc
          refine lv_iload_n hx hb dX5_judged_97 rfl (lv_at hl 2 rfl) ?_
          refine lv_if_eq (tgt := 105) hx hb dX5_judged_98 (by decide) (fun hc => ?_) (fun hc => ?_)
          · replace hf := it_t hf hc
            refine lv_iconst (v := 1) hx hb dX5_judged_105 (by decide) ?_
            cases hf
            exact r_iret C h hr hlocks dX5_judged_106
          · replace hf := it_f hf hc
            refine lv_iconst (v := 0) hx hb dX5_judged_101 (by decide) ?_
            refine lv_goto (tgt := 106) hx hb dX5_judged_102 (by decide) ?_
            cases hf
            exact r_iret C h hr hlocks dX5_judged_106
        · replace hf := it_f hf hc
          refine lv_iconst (v := 2) hx hb dX5_judged_93 (by decide) ?_
          refine lv_goto (tgt := 106) hx hb dX5_judged_94 (by decide) ?_
          cases hf
          exact r_iret C h hr hlocks dX5_judged_106
      · replace hf := it_f hf hc
        refine lv_iload_n hx hb dX5_judged_15 rfl (lv_at hl 1 rfl) ?_
        refine lv_if_ne (tgt := 34) hx hb dX5_judged_16 (by decide) (fun hc => ?_) (fun hc => ?_)
        · replace hf := it_f hf hc
          refine lv_iconst (v := 1) hx hb dX5_judged_34 (by decide) ?_
          refine lv_goto (tgt := 39) hx hb dX5_judged_35 (by decide) ?_
          refine lv_istore_n (lv' := [(1, .int 1), (0, .ref s0), (2, .int x2), (3, .int x3)]) hx hb dX5_judged_39 rfl hl (by decide) rfl (fun ls hl => ?_)
          refine lv_iload_n hx hb dX5_judged_40 rfl (lv_at hl 2 rfl) ?_
          refine lv_if_eq (tgt := 81) hx hb dX5_judged_41 (by decide) (fun hc => ?_) (fun hc => ?_)
          · replace hf := it_t hf hc
            refine lv_iconst (v := 0) hx hb dX5_judged_81 (by decide) ?_
            refine lv_istore_n (lv' := [(2, .int 0), (1, .int 1), (0, .ref s0), (3, .int x3)]) hx hb dX5_judged_82 rfl hl (by decide) rfl (fun ls hl => ?_)
            obtain ⟨x3_1, ex3_1⟩ : ∃ y : Int32, y = x3 + 1 := ⟨_, rfl⟩
            replace hf := nm_use hf ex3_1
            refine lv_iinc (v := x3_1) (lv' := [(3, .int x3_1), (2, .int 0), (1, .int 1), (0, .ref s0)]) hx hb dX5_judged_83 hl (k := 3) rfl (by rw [ex3_1]; rfl) (by decide) rfl (fun ls hl => ?_)
            refine lv_goto (tgt := 6) hx hb dX5_judged_86 (by decide) ?_
            exact ih 1 0 x3_1 _ _ _ h (lv_sub hl [3, 2, 1, 0] rfl) hf
          · replace hf := it_f hf hc
            refine lv_aload_n hx hb dX5_judged_44 rfl (lv_at hl 1 rfl) ?_
            refine lv_bipush (v := 106) hx hb dX5_judged_45 (by decide) ?_
            refine lv_iconst (v := 3) hx hb dX5_judged_47 (by decide) ?_
            refine lv_iload_n hx hb dX5_judged_48 rfl (lv_at hl 3 rfl) ?_
            refine lv_imul hx hb dX5_judged_49 ?_
            refine lv_iadd hx hb dX5_judged_50 ?_
            refine lv_iconst (v := 1) hx hb dX5_judged_51 (by decide) ?_
            refine lv_iadd hx hb dX5_judged_52 ?_
            obtain ⟨j_2, hj_2, hf⟩ := chk_use hf
            refine r_ald C h 0 rfl rfl hj_2 dX5_judged_53 ?_
            refine lv_aload_n hx hb dX5_judged_54 rfl (lv_at hl 1 rfl) ?_
            refine lv_bipush (v := 107) hx hb dX5_judged_55 (by decide) ?_
            refine r_ald C h 0 rfl rfl k_107_234 dX5_judged_57 ?_
            refine lv_icmp_ne (tgt := 81) hx hb dX5_judged_58 (by decide) (fun hc => ?_) (fun hc => ?_)
            · replace hf := it_f hf hc
              refine lv_iconst (v := 0) hx hb dX5_judged_81 (by decide) ?_
              refine lv_istore_n (lv' := [(2, .int 0), (1, .int 1), (0, .ref s0), (3, .int x3)]) hx hb dX5_judged_82 rfl hl (by decide) rfl (fun ls hl => ?_)
              obtain ⟨x3_3, ex3_3⟩ : ∃ y : Int32, y = x3 + 1 := ⟨_, rfl⟩
              replace hf := nm_use hf ex3_3
              refine lv_iinc (v := x3_3) (lv' := [(3, .int x3_3), (2, .int 0), (1, .int 1), (0, .ref s0)]) hx hb dX5_judged_83 hl (k := 3) rfl (by rw [ex3_3]; rfl) (by decide) rfl (fun ls hl => ?_)
              refine lv_goto (tgt := 6) hx hb dX5_judged_86 (by decide) ?_
              exact ih 1 0 x3_3 _ _ _ h (lv_sub hl [3, 2, 1, 0] rfl) hf
            · replace hf := it_t hf hc
              refine lv_aload_n hx hb dX5_judged_61 rfl (lv_at hl 1 rfl) ?_
              refine lv_bipush (v := 106) hx hb dX5_judged_62 (by decide) ?_
              refine lv_iconst (v := 3) hx hb dX5_judged_64 (by decide) ?_
              refine lv_iload_n hx hb dX5_judged_65 rfl (lv_at hl 3 rfl) ?_
              refine lv_imul hx hb dX5_judged_66 ?_
              refine lv_iadd hx hb dX5_judged_67 ?_
              refine lv_iconst (v := 2) hx hb dX5_judged_68 (by decide) ?_
              refine lv_iadd hx hb dX5_judged_69 ?_
              obtain ⟨j_4, hj_4, hf⟩ := chk_use hf
              refine r_ald C h 0 rfl rfl hj_4 dX5_judged_70 ?_
              refine lv_iload_n hx hb dX5_judged_71 rfl (lv_at hl 3 rfl) ?_
              refine lv_iconst (v := 2) hx hb dX5_judged_72 (by decide) ?_
              refine lv_idiv hx hb dX5_judged_73 (by decide) ?_
              refine lv_icmp_ne (tgt := 81) hx hb dX5_judged_74 (by decide) (fun hc => ?_) (fun hc => ?_)
              · replace hf := it_f hf hc
                refine lv_iconst (v := 0) hx hb dX5_judged_81 (by decide) ?_
                refine lv_istore_n (lv' := [(2, .int 0), (1, .int 1), (0, .ref s0), (3, .int x3)]) hx hb dX5_judged_82 rfl hl (by decide) rfl (fun ls hl => ?_)
                obtain ⟨x3_5, ex3_5⟩ : ∃ y : Int32, y = x3 + 1 := ⟨_, rfl⟩
                replace hf := nm_use hf ex3_5
                refine lv_iinc (v := x3_5) (lv' := [(3, .int x3_5), (2, .int 0), (1, .int 1), (0, .ref s0)]) hx hb dX5_judged_83 hl (k := 3) rfl (by rw [ex3_5]; rfl) (by decide) rfl (fun ls hl => ?_)
                refine lv_goto (tgt := 6) hx hb dX5_judged_86 (by decide) ?_
                exact ih 1 0 x3_5 _ _ _ h (lv_sub hl [3, 2, 1, 0] rfl) hf
              · replace hf := it_t hf hc
                refine lv_iconst (v := 1) hx hb dX5_judged_77 (by decide) ?_
                refine lv_goto (tgt := 82) hx hb dX5_judged_78 (by decide) ?_
                refine lv_istore_n (lv' := [(2, .int 1), (1, .int 1), (0, .ref s0), (3, .int x3)]) hx hb dX5_judged_82 rfl hl (by decide) rfl (fun ls hl => ?_)
                obtain ⟨x3_6, ex3_6⟩ : ∃ y : Int32, y = x3 + 1 := ⟨_, rfl⟩
                replace hf := nm_use hf ex3_6
                refine lv_iinc (v := x3_6) (lv' := [(3, .int x3_6), (2, .int 1), (1, .int 1), (0, .ref s0)]) hx hb dX5_judged_83 hl (k := 3) rfl (by rw [ex3_6]; rfl) (by decide) rfl (fun ls hl => ?_)
                refine lv_goto (tgt := 6) hx hb dX5_judged_86 (by decide) ?_
                exact ih 1 1 x3_6 _ _ _ h (lv_sub hl [3, 2, 1, 0] rfl) hf
        · replace hf := it_t hf hc
          refine lv_aload_n hx hb dX5_judged_19 rfl (lv_at hl 0 rfl) ?_
          refine lv_bipush (v := 106) hx hb dX5_judged_20 (by decide) ?_
          refine lv_iconst (v := 3) hx hb dX5_judged_22 (by decide) ?_
          refine lv_iload_n hx hb dX5_judged_23 rfl (lv_at hl 3 rfl) ?_
          refine lv_imul hx hb dX5_judged_24 ?_
          refine lv_iadd hx hb dX5_judged_25 ?_
          refine lv_iconst (v := 1) hx hb dX5_judged_26 (by decide) ?_
          refine lv_iadd hx hb dX5_judged_27 ?_
          obtain ⟨j_7, hj_7, hf⟩ := chk_use hf
          refine r_ald C h 0 rfl rfl hj_7 dX5_judged_28 ?_
          refine lv_bipush (v := (-6)) hx hb dX5_judged_29 (by decide) ?_
          refine lv_icmp_ne (tgt := 38) hx hb dX5_judged_31 (by decide) (fun hc => ?_) (fun hc => ?_)
          · replace hf := it_f hf hc
            refine lv_iconst (v := 0) hx hb dX5_judged_38 (by decide) ?_
            refine lv_istore_n (lv' := [(1, .int 0), (0, .ref s0), (2, .int x2), (3, .int x3)]) hx hb dX5_judged_39 rfl hl (by decide) rfl (fun ls hl => ?_)
            refine lv_iload_n hx hb dX5_judged_40 rfl (lv_at hl 2 rfl) ?_
            refine lv_if_eq (tgt := 81) hx hb dX5_judged_41 (by decide) (fun hc => ?_) (fun hc => ?_)
            · replace hf := it_t hf hc
              refine lv_iconst (v := 0) hx hb dX5_judged_81 (by decide) ?_
              refine lv_istore_n (lv' := [(2, .int 0), (1, .int 0), (0, .ref s0), (3, .int x3)]) hx hb dX5_judged_82 rfl hl (by decide) rfl (fun ls hl => ?_)
              obtain ⟨x3_8, ex3_8⟩ : ∃ y : Int32, y = x3 + 1 := ⟨_, rfl⟩
              replace hf := nm_use hf ex3_8
              refine lv_iinc (v := x3_8) (lv' := [(3, .int x3_8), (2, .int 0), (1, .int 0), (0, .ref s0)]) hx hb dX5_judged_83 hl (k := 3) rfl (by rw [ex3_8]; rfl) (by decide) rfl (fun ls hl => ?_)
              refine lv_goto (tgt := 6) hx hb dX5_judged_86 (by decide) ?_
              exact ih 0 0 x3_8 _ _ _ h (lv_sub hl [3, 2, 1, 0] rfl) hf
            · replace hf := it_f hf hc
              refine lv_aload_n hx hb dX5_judged_44 rfl (lv_at hl 1 rfl) ?_
              refine lv_bipush (v := 106) hx hb dX5_judged_45 (by decide) ?_
              refine lv_iconst (v := 3) hx hb dX5_judged_47 (by decide) ?_
              refine lv_iload_n hx hb dX5_judged_48 rfl (lv_at hl 3 rfl) ?_
              refine lv_imul hx hb dX5_judged_49 ?_
              refine lv_iadd hx hb dX5_judged_50 ?_
              refine lv_iconst (v := 1) hx hb dX5_judged_51 (by decide) ?_
              refine lv_iadd hx hb dX5_judged_52 ?_
              obtain ⟨j_9, hj_9, hf⟩ := chk_use hf
              refine r_ald C h 0 rfl rfl hj_9 dX5_judged_53 ?_
              refine lv_aload_n hx hb dX5_judged_54 rfl (lv_at hl 1 rfl) ?_
              refine lv_bipush (v := 107) hx hb dX5_judged_55 (by decide) ?_
              refine r_ald C h 0 rfl rfl k_107_234 dX5_judged_57 ?_
              refine lv_icmp_ne (tgt := 81) hx hb dX5_judged_58 (by decide) (fun hc => ?_) (fun hc => ?_)
              · replace hf := it_f hf hc
                refine lv_iconst (v := 0) hx hb dX5_judged_81 (by decide) ?_
                refine lv_istore_n (lv' := [(2, .int 0), (1, .int 0), (0, .ref s0), (3, .int x3)]) hx hb dX5_judged_82 rfl hl (by decide) rfl (fun ls hl => ?_)
                obtain ⟨x3_10, ex3_10⟩ : ∃ y : Int32, y = x3 + 1 := ⟨_, rfl⟩
                replace hf := nm_use hf ex3_10
                refine lv_iinc (v := x3_10) (lv' := [(3, .int x3_10), (2, .int 0), (1, .int 0), (0, .ref s0)]) hx hb dX5_judged_83 hl (k := 3) rfl (by rw [ex3_10]; rfl) (by decide) rfl (fun ls hl => ?_)
                refine lv_goto (tgt := 6) hx hb dX5_judged_86 (by decide) ?_
                exact ih 0 0 x3_10 _ _ _ h (lv_sub hl [3, 2, 1, 0] rfl) hf
              · replace hf := it_t hf hc
                refine lv_aload_n hx hb dX5_judged_61 rfl (lv_at hl 1 rfl) ?_
                refine lv_bipush (v := 106) hx hb dX5_judged_62 (by decide) ?_
                refine lv_iconst (v := 3) hx hb dX5_judged_64 (by decide) ?_
                refine lv_iload_n hx hb dX5_judged_65 rfl (lv_at hl 3 rfl) ?_
                refine lv_imul hx hb dX5_judged_66 ?_
                refine lv_iadd hx hb dX5_judged_67 ?_
                refine lv_iconst (v := 2) hx hb dX5_judged_68 (by decide) ?_
                refine lv_iadd hx hb dX5_judged_69 ?_
                obtain ⟨j_11, hj_11, hf⟩ := chk_use hf
                refine r_ald C h 0 rfl rfl hj_11 dX5_judged_70 ?_
                refine lv_iload_n hx hb dX5_judged_71 rfl (lv_at hl 3 rfl) ?_
                refine lv_iconst (v := 2) hx hb dX5_judged_72 (by decide) ?_
                refine lv_idiv hx hb dX5_judged_73 (by decide) ?_
                refine lv_icmp_ne (tgt := 81) hx hb dX5_judged_74 (by decide) (fun hc => ?_) (fun hc => ?_)
                · replace hf := it_f hf hc
                  refine lv_iconst (v := 0) hx hb dX5_judged_81 (by decide) ?_
                  refine lv_istore_n (lv' := [(2, .int 0), (1, .int 0), (0, .ref s0), (3, .int x3)]) hx hb dX5_judged_82 rfl hl (by decide) rfl (fun ls hl => ?_)
                  obtain ⟨x3_12, ex3_12⟩ : ∃ y : Int32, y = x3 + 1 := ⟨_, rfl⟩
                  replace hf := nm_use hf ex3_12
                  refine lv_iinc (v := x3_12) (lv' := [(3, .int x3_12), (2, .int 0), (1, .int 0), (0, .ref s0)]) hx hb dX5_judged_83 hl (k := 3) rfl (by rw [ex3_12]; rfl) (by decide) rfl (fun ls hl => ?_)
                  refine lv_goto (tgt := 6) hx hb dX5_judged_86 (by decide) ?_
                  exact ih 0 0 x3_12 _ _ _ h (lv_sub hl [3, 2, 1, 0] rfl) hf
                · replace hf := it_t hf hc
                  refine lv_iconst (v := 1) hx hb dX5_judged_77 (by decide) ?_
                  refine lv_goto (tgt := 82) hx hb dX5_judged_78 (by decide) ?_
                  refine lv_istore_n (lv' := [(2, .int 1), (1, .int 0), (0, .ref s0), (3, .int x3)]) hx hb dX5_judged_82 rfl hl (by decide) rfl (fun ls hl => ?_)
                  obtain ⟨x3_13, ex3_13⟩ : ∃ y : Int32, y = x3 + 1 := ⟨_, rfl⟩
                  replace hf := nm_use hf ex3_13
                  refine lv_iinc (v := x3_13) (lv' := [(3, .int x3_13), (2, .int 1), (1, .int 0), (0, .ref s0)]) hx hb dX5_judged_83 hl (k := 3) rfl (by rw [ex3_13]; rfl) (by decide) rfl (fun ls hl => ?_)
                  refine lv_goto (tgt := 6) hx hb dX5_judged_86 (by decide) ?_
                  exact ih 0 1 x3_13 _ _ _ h (lv_sub hl [3, 2, 1, 0] rfl) hf
          · replace hf := it_t hf hc
            refine lv_iconst (v := 1) hx hb dX5_judged_34 (by decide) ?_
            refine lv_goto (tgt := 39) hx hb dX5_judged_35 (by decide) ?_
            refine lv_istore_n (lv' := [(1, .int 1), (0, .ref s0), (2, .int x2), (3, .int x3)]) hx hb dX5_judged_39 rfl hl (by decide) rfl (fun ls hl => ?_)
            refine lv_iload_n hx hb dX5_judged_40 rfl (lv_at hl 2 rfl) ?_
            refine lv_if_eq (tgt := 81) hx hb dX5_judged_41 (by decide) (fun hc => ?_) (fun hc => ?_)
            · replace hf := it_t hf hc
              refine lv_iconst (v := 0) hx hb dX5_judged_81 (by decide) ?_
              refine lv_istore_n (lv' := [(2, .int 0), (1, .int 1), (0, .ref s0), (3, .int x3)]) hx hb dX5_judged_82 rfl hl (by decide) rfl (fun ls hl => ?_)
              obtain ⟨x3_14, ex3_14⟩ : ∃ y : Int32, y = x3 + 1 := ⟨_, rfl⟩
              replace hf := nm_use hf ex3_14
              refine lv_iinc (v := x3_14) (lv' := [(3, .int x3_14), (2, .int 0), (1, .int 1), (0, .ref s0)]) hx hb dX5_judged_83 hl (k := 3) rfl (by rw [ex3_14]; rfl) (by decide) rfl (fun ls hl => ?_)
              refine lv_goto (tgt := 6) hx hb dX5_judged_86 (by decide) ?_
              exact ih 1 0 x3_14 _ _ _ h (lv_sub hl [3, 2, 1, 0] rfl) hf
            · replace hf := it_f hf hc
              refine lv_aload_n hx hb dX5_judged_44 rfl (lv_at hl 1 rfl) ?_
              refine lv_bipush (v := 106) hx hb dX5_judged_45 (by decide) ?_
              refine lv_iconst (v := 3) hx hb dX5_judged_47 (by decide) ?_
              refine lv_iload_n hx hb dX5_judged_48 rfl (lv_at hl 3 rfl) ?_
              refine lv_imul hx hb dX5_judged_49 ?_
              refine lv_iadd hx hb dX5_judged_50 ?_
              refine lv_iconst (v := 1) hx hb dX5_judged_51 (by decide) ?_
              refine lv_iadd hx hb dX5_judged_52 ?_
              obtain ⟨j_15, hj_15, hf⟩ := chk_use hf
              refine r_ald C h 0 rfl rfl hj_15 dX5_judged_53 ?_
              refine lv_aload_n hx hb dX5_judged_54 rfl (lv_at hl 1 rfl) ?_
              refine lv_bipush (v := 107) hx hb dX5_judged_55 (by decide) ?_
              refine r_ald C h 0 rfl rfl k_107_234 dX5_judged_57 ?_
              refine lv_icmp_ne (tgt := 81) hx hb dX5_judged_58 (by decide) (fun hc => ?_) (fun hc => ?_)
              · replace hf := it_f hf hc
                refine lv_iconst (v := 0) hx hb dX5_judged_81 (by decide) ?_
                refine lv_istore_n (lv' := [(2, .int 0), (1, .int 1), (0, .ref s0), (3, .int x3)]) hx hb dX5_judged_82 rfl hl (by decide) rfl (fun ls hl => ?_)
                obtain ⟨x3_16, ex3_16⟩ : ∃ y : Int32, y = x3 + 1 := ⟨_, rfl⟩
                replace hf := nm_use hf ex3_16
                refine lv_iinc (v := x3_16) (lv' := [(3, .int x3_16), (2, .int 0), (1, .int 1), (0, .ref s0)]) hx hb dX5_judged_83 hl (k := 3) rfl (by rw [ex3_16]; rfl) (by decide) rfl (fun ls hl => ?_)
                refine lv_goto (tgt := 6) hx hb dX5_judged_86 (by decide) ?_
                exact ih 1 0 x3_16 _ _ _ h (lv_sub hl [3, 2, 1, 0] rfl) hf
              · replace hf := it_t hf hc
                refine lv_aload_n hx hb dX5_judged_61 rfl (lv_at hl 1 rfl) ?_
                refine lv_bipush (v := 106) hx hb dX5_judged_62 (by decide) ?_
                refine lv_iconst (v := 3) hx hb dX5_judged_64 (by decide) ?_
                refine lv_iload_n hx hb dX5_judged_65 rfl (lv_at hl 3 rfl) ?_
                refine lv_imul hx hb dX5_judged_66 ?_
                refine lv_iadd hx hb dX5_judged_67 ?_
                refine lv_iconst (v := 2) hx hb dX5_judged_68 (by decide) ?_
                refine lv_iadd hx hb dX5_judged_69 ?_
                obtain ⟨j_17, hj_17, hf⟩ := chk_use hf
                refine r_ald C h 0 rfl rfl hj_17 dX5_judged_70 ?_
                refine lv_iload_n hx hb dX5_judged_71 rfl (lv_at hl 3 rfl) ?_
                refine lv_iconst (v := 2) hx hb dX5_judged_72 (by decide) ?_
                refine lv_idiv hx hb dX5_judged_73 (by decide) ?_
                refine lv_icmp_ne (tgt := 81) hx hb dX5_judged_74 (by decide) (fun hc => ?_) (fun hc => ?_)
                · replace hf := it_f hf hc
                  refine lv_iconst (v := 0) hx hb dX5_judged_81 (by decide) ?_
                  refine lv_istore_n (lv' := [(2, .int 0), (1, .int 1), (0, .ref s0), (3, .int x3)]) hx hb dX5_judged_82 rfl hl (by decide) rfl (fun ls hl => ?_)
                  obtain ⟨x3_18, ex3_18⟩ : ∃ y : Int32, y = x3 + 1 := ⟨_, rfl⟩
                  replace hf := nm_use hf ex3_18
                  refine lv_iinc (v := x3_18) (lv' := [(3, .int x3_18), (2, .int 0), (1, .int 1), (0, .ref s0)]) hx hb dX5_judged_83 hl (k := 3) rfl (by rw [ex3_18]; rfl) (by decide) rfl (fun ls hl => ?_)
                  refine lv_goto (tgt := 6) hx hb dX5_judged_86 (by decide) ?_
                  exact ih 1 0 x3_18 _ _ _ h (lv_sub hl [3, 2, 1, 0] rfl) hf
                · replace hf := it_t hf hc
                  refine lv_iconst (v := 1) hx hb dX5_judged_77 (by decide) ?_
                  refine lv_goto (tgt := 82) hx hb dX5_judged_78 (by decide) ?_
                  refine lv_istore_n (lv' := [(2, .int 1), (1, .int 1), (0, .ref s0), (3, .int x3)]) hx hb dX5_judged_82 rfl hl (by decide) rfl (fun ls hl => ?_)
                  obtain ⟨x3_19, ex3_19⟩ : ∃ y : Int32, y = x3 + 1 := ⟨_, rfl⟩
                  replace hf := nm_use hf ex3_19
                  refine lv_iinc (v := x3_19) (lv' := [(3, .int x3_19), (2, .int 1), (1, .int 1), (0, .ref s0)]) hx hb dX5_judged_83 hl (k := 3) rfl (by rw [ex3_19]; rfl) (by decide) rfl (fun ls hl => ?_)
                  refine lv_goto (tgt := 6) hx hb dX5_judged_86 (by decide) ?_
                  exact ih 1 1 x3_19 _ _ _ h (lv_sub hl [3, 2, 1, 0] rfl) hf
  unfold fX5_judged at hf
  refine lv_iconst (v := 0) hx hb dX5_judged_0 (by decide) ?_
  refine lv_istore_n (lv' := [(1, .int 0), (0, .ref s0)]) hx hb dX5_judged_1 rfl hl (by decide) rfl (fun ls hl => ?_)
  refine lv_iconst (v := 1) hx hb dX5_judged_2 (by decide) ?_
  refine lv_istore_n (lv' := [(2, .int 1), (1, .int 0), (0, .ref s0)]) hx hb dX5_judged_3 rfl hl (by decide) rfl (fun ls hl => ?_)
  refine lv_iconst (v := 0) hx hb dX5_judged_4 (by decide) ?_
  refine lv_istore_n (lv' := [(3, .int 0), (2, .int 1), (1, .int 0), (0, .ref s0)]) hx hb dX5_judged_5 rfl hl (by decide) rfl (fun ls hl => ?_)
  exact cut_6 KF 0 1 0 _ _ _ h (lv_sub hl [3, 2, 1, 0] rfl) hf
def rm_X5_goesOut : Room := { frames := 2, cells := 0, slots := 0, locals := 46 }
set_option maxRecDepth 20000 in
theorem cw_X5_goesOut_X5_judged_75 {s : State} {args : Array Value} (hts : ∀ w ∈ wsX5_goesOut, w.before args s = true) : CallB rm_X5_goesOut s args RX5 75 yX5_judged cX5_judged 4 (some .int) wsX5_judged rm_X5_judged 0 0 1 ∧ (Cond.static yX5_judged).before args s = true :=
  va_cwS 1 hts gX5_goesOut_X5_judged rfl rfl rfl (by decide +kernel) ⟨Nat.le_of_ble_eq_true rfl, Nat.le_of_ble_eq_true rfl⟩
set_option maxRecDepth 20000 in
theorem cw_X5_goesOut_X5_of_47 {s : State} {args : Array Value} (hts : ∀ w ∈ wsX5_goesOut, w.before args s = true) : CallB rm_X5_goesOut s args RX5 47 yX5_of cX5_of 3 (some .int) wsX5_of rm_X5_of 0 0 3 ∧ (Cond.static yX5_of).before args s = true :=
  va_cwS 3 hts gX5_goesOut_X5_of rfl rfl rfl (by decide +kernel) ⟨Nat.le_of_ble_eq_true rfl, Nat.le_of_ble_eq_true rfl⟩
set_option maxRecDepth 20000 in
theorem cw_X5_goesOut_X5_leaves_55 {s : State} {args : Array Value} (hts : ∀ w ∈ wsX5_goesOut, w.before args s = true) : CallB rm_X5_goesOut s args RX5 55 yX5_leaves cX5_leaves 3 none wsX5_leaves rm_X5_leaves 0 0 2 ∧ (Cond.static yX5_leaves).before args s = true :=
  va_cwS 2 hts gX5_goesOut_X5_leaves rfl rfl rfl (by decide +kernel) ⟨Nat.le_of_ble_eq_true rfl, Nat.le_of_ble_eq_true rfl⟩
set_option maxRecDepth 20000 in
theorem cw_X5_goesOut_X5_isBegin_71 {s : State} {args : Array Value} (hts : ∀ w ∈ wsX5_goesOut, w.before args s = true) : CallB rm_X5_goesOut s args RX5 71 yX5_isBegin cX5_isBegin 1 (some .boolean) wsX5_isBegin rm_X5_isBegin 0 0 1 ∧ (Cond.static yX5_isBegin).before args s = true :=
  va_cwS 1 hts gX5_goesOut_X5_isBegin rfl rfl rfl (by decide +kernel) ⟨Nat.le_of_ble_eq_true rfl, Nat.le_of_ble_eq_true rfl⟩
set_option maxRecDepth 20000 in
theorem cw_X5_goesOut_X5_loses_67 {s : State} {args : Array Value} (hts : ∀ w ∈ wsX5_goesOut, w.before args s = true) : CallB rm_X5_goesOut s args RX5 67 yX5_loses cX5_loses 3 none wsX5_loses rm_X5_loses 0 0 3 ∧ (Cond.static yX5_loses).before args s = true :=
  va_cwS 3 hts gX5_goesOut_X5_loses rfl rfl rfl (by decide +kernel) ⟨Nat.le_of_ble_eq_true rfl, Nat.le_of_ble_eq_true rfl⟩
set_option maxHeartbeats 4000000 in
set_option maxRecDepth 100000 in
theorem c_X5_goesOut (l : Launch) (G : va_G) (cI cC cZ : ClassId) (X : List (ClassId × FieldType)) (s0 : Nat) (sf : Nat → Int32) (sf' : Nat → Int32) (hf : fX5_goesOut sf = some (sf')) : CT l yX5_goesOut wsX5_goesOut rm_X5_goesOut G (TY cI cC cZ X) [.ref s0] (wA1 cI s0 sf) none (wA1 cI s0 sf') := by
  refine CT.of (cc := cX5_goesOut) (maxL := 3) (ret := none) RX5 rfl (by decide) rfl (Nat.le_of_ble_eq_true rfl) ?_
  intro p e s m args below meth c A ls C hr hlocks hnm h hl
  have hx := C.hx
  have hb := C.hb
  have hl : lv_has ls 3 [(0, .ref s0)] := hl
  have cut_231 : ∀ (sf : Nat → Int32) (H : Heap) (locs : List Loc) (ls : Array Slot), Hx s G A (wA1 cI s0 sf) H locs → lv_has ls 3 [(0, .ref s0)] → fX5_goesOut_231 sf = some (sf') → W p l e rm_X5_goesOut s m args below meth c H locs 0 0 (MQ below (Qx G none (wA1 cI s0 sf') A) args s 0 0 A) (F0 m 231 ls []) := by
    intro sf H locs ls h hl hf
    unfold fX5_goesOut_231 at hf
    refine lv_aload_n hx hb dX5_goesOut_231 rfl (lv_at hl 0 rfl) ?_
    refine lv_bipush (v := 19) hx hb dX5_goesOut_232 (by decide) ?_
    refine lv_dup2_11 hx hb dX5_goesOut_234 rfl rfl ?_
    refine r_ald C h 0 rfl rfl k_19_234 dX5_goesOut_235 ?_
    refine lv_aload_n hx hb dX5_goesOut_236 rfl (lv_at hl 0 rfl) ?_
    refine lv_iconst (v := 2) hx hb dX5_goesOut_237 (by decide) ?_
    refine r_ald C h 0 rfl rfl k_2_234 dX5_goesOut_238 ?_
    refine lv_iadd hx hb dX5_goesOut_239 ?_
    refine r_ast C h 0 rfl rfl k_19_234 (fun z__ => (wA1 cI s0 z__)) (fun _ => rfl) dX5_goesOut_240 (fun sf_1 esf_1 H locs h => ?_)
    replace hf := nm_use hf esf_1
    cases hf
    exact r_vret C h hr hlocks dX5_goesOut_241
  have cut_185 : ∀ (sf : Nat → Int32) (H : Heap) (locs : List Loc) (ls : Array Slot), Hx s G A (wA1 cI s0 sf) H locs → lv_has ls 3 [(0, .ref s0)] → fX5_goesOut_185 sf = some (sf') → W p l e rm_X5_goesOut s m args below meth c H locs 0 0 (MQ below (Qx G none (wA1 cI s0 sf') A) args s 0 0 A) (F0 m 185 ls []) := by
    intro sf H locs ls h hl hf
    unfold fX5_goesOut_185 at hf
    refine lv_aload_n hx hb dX5_goesOut_185 rfl (lv_at hl 0 rfl) ?_
    refine lv_bipush (v := 15) hx hb dX5_goesOut_186 (by decide) ?_
    refine lv_dup2_11 hx hb dX5_goesOut_188 rfl rfl ?_
    refine r_ald C h 0 rfl rfl k_15_234 dX5_goesOut_189 ?_
    refine lv_iconst (v := 1) hx hb dX5_goesOut_190 (by decide) ?_
    refine lv_iadd hx hb dX5_goesOut_191 ?_
    refine r_ast C h 0 rfl rfl k_15_234 (fun z__ => (wA1 cI s0 z__)) (fun _ => rfl) dX5_goesOut_192 (fun sf_1 esf_1 H locs h => ?_)
    replace hf := nm_use hf esf_1
    refine lv_aload_n hx hb dX5_goesOut_193 rfl (lv_at hl 0 rfl) ?_
    refine lv_bipush (v := 15) hx hb dX5_goesOut_194 (by decide) ?_
    refine r_ald C h 0 rfl rfl k_15_234 dX5_goesOut_196 ?_
    refine lv_iconst (v := 2) hx hb dX5_goesOut_197 (by decide) ?_
    refine lv_aload_n hx hb dX5_goesOut_198 rfl (lv_at hl 0 rfl) ?_
    refine lv_iconst (v := 4) hx hb dX5_goesOut_199 (by decide) ?_
    refine r_ald C h 0 rfl rfl k_4_234 dX5_goesOut_200 ?_
    refine lv_imul hx hb dX5_goesOut_201 ?_
    refine lv_icmp_lt (tgt := 231) hx hb dX5_goesOut_202 (by decide) (fun hc => ?_) (fun hc => ?_)
    · replace hf := it_t hf hc
      exact cut_231 sf_1 _ _ _ h (lv_sub hl [0] rfl) hf
    · replace hf := it_f hf hc
      refine lv_aload_n hx hb dX5_goesOut_205 rfl (lv_at hl 0 rfl) ?_
      refine lv_bipush (v := 15) hx hb dX5_goesOut_206 (by decide) ?_
      refine lv_iconst (v := 0) hx hb dX5_goesOut_208 (by decide) ?_
      refine r_ast C h 0 rfl rfl k_15_234 (fun z__ => (wA1 cI s0 z__)) (fun _ => rfl) dX5_goesOut_209 (fun sf_2 esf_2 H locs h => ?_)
      replace hf := nm_use hf esf_2
      refine lv_aload_n hx hb dX5_goesOut_210 rfl (lv_at hl 0 rfl) ?_
      refine lv_bipush (v := 23) hx hb dX5_goesOut_211 (by decide) ?_
      refine lv_aload_n hx hb dX5_goesOut_213 rfl (lv_at hl 0 rfl) ?_
      obtain ⟨r_3, hq_4, hf⟩ := ob1_use hf
      refine r_callS C h (cw_X5_goesOut_X5_judged_75 C.hts) (rest := [.int 23, .ref s0]) (c_X5_judged l G cI cC cZ X s0 sf_2 r_3 hq_4) [0] rfl rfl rfl rfl hl.1 rfl (Nat.le_of_ble_eq_true rfl) ⟨Nat.le_of_ble_eq_true rfl, Nat.le_of_ble_eq_true rfl⟩ (wA1 cI s0 sf_2) rfl rfl dX5_goesOut_214 (fun H locs h => ?_)
      refine r_ast C h 0 rfl rfl k_23_234 (fun z__ => (wA1 cI s0 z__)) (fun _ => rfl) dX5_goesOut_217 (fun sf_5 esf_5 H locs h => ?_)
      replace hf := nm_use hf esf_5
      refine lv_aload_n hx hb dX5_goesOut_218 rfl (lv_at hl 0 rfl) ?_
      refine lv_bipush (v := 20) hx hb dX5_goesOut_219 (by decide) ?_
      refine lv_aload_n hx hb dX5_goesOut_221 rfl (lv_at hl 0 rfl) ?_
      refine lv_bipush (v := 23) hx hb dX5_goesOut_222 (by decide) ?_
      refine r_ald C h 0 rfl rfl k_23_234 dX5_goesOut_224 ?_
      refine lv_iadd hx hb dX5_goesOut_225 ?_
      refine lv_topi (fun y_6 ey_6 => ?_)
      replace hf := nm_use hf ey_6
      refine lv_dup2_11 hx hb dX5_goesOut_226 rfl rfl ?_
      obtain ⟨j_7, hj_7, hf⟩ := chk_use hf
      refine r_ald C h 0 rfl rfl hj_7 dX5_goesOut_227 ?_
      refine lv_iconst (v := 1) hx hb dX5_goesOut_228 (by decide) ?_
      refine lv_iadd hx hb dX5_goesOut_229 ?_
      obtain ⟨j_8, hj_8, hf⟩ := chk_use hf
      refine r_ast C h 0 rfl rfl hj_8 (fun z__ => (wA1 cI s0 z__)) (fun _ => rfl) dX5_goesOut_230 (fun sf_9 esf_9 H locs h => ?_)
      replace hf := nm_use hf esf_9
      exact cut_231 sf_9 _ _ _ h (lv_sub hl [0] rfl) hf
  have cut_40 : ∀ (sf : Nat → Int32) (x1 : Int32) (H : Heap) (locs : List Loc) (ls : Array Slot), Hx s G A (wA1 cI s0 sf) H locs → lv_has ls 3 [(0, .ref s0), (1, .int x1)] → fX5_goesOut_40 sf x1 = some (sf') → W p l e rm_X5_goesOut s m args below meth c H locs 0 0 (MQ below (Qx G none (wA1 cI s0 sf') A) args s 0 0 A) (F0 m 40 ls []) := by
    intro sf x1 H locs ls h hl hf
    unfold fX5_goesOut_40 at hf
    refine lv_aload_n hx hb dX5_goesOut_40 rfl (lv_at hl 0 rfl) ?_
    refine lv_bipush (v := 10) hx hb dX5_goesOut_41 (by decide) ?_
    refine r_ald C h 0 rfl rfl k_10_234 dX5_goesOut_43 ?_
    refine lv_if_le (tgt := 51) hx hb dX5_goesOut_44 (by decide) (fun hc => ?_) (fun hc => ?_)
    · replace hf := it_t hf hc
      refine lv_iconst (v := 0) hx hb dX5_goesOut_51 (by decide) ?_
      refine lv_istore_n (lv' := [(2, .int 0), (0, .ref s0), (1, .int x1)]) hx hb dX5_goesOut_52 rfl hl (by decide) rfl (fun ls hl => ?_)
      refine lv_aload_n hx hb dX5_goesOut_53 rfl (lv_at hl 1 rfl) ?_
      refine lv_bipush (v := 106) hx hb dX5_goesOut_54 (by decide) ?_
      refine lv_iconst (v := 3) hx hb dX5_goesOut_56 (by decide) ?_
      refine lv_iload_n hx hb dX5_goesOut_57 rfl (lv_at hl 2 rfl) ?_
      refine lv_imul hx hb dX5_goesOut_58 ?_
      refine lv_iadd hx hb dX5_goesOut_59 ?_
      refine lv_iload_n hx hb dX5_goesOut_60 rfl (lv_at hl 0 rfl) ?_
      refine lv_if_eq (tgt := 73) hx hb dX5_goesOut_61 (by decide) (fun _ => ?_) (fun hc => absurd hc (by decide))
      refine lv_aload_n hx hb dX5_goesOut_73 rfl (lv_at hl 1 rfl) ?_
      refine lv_bipush (v := 7) hx hb dX5_goesOut_74 (by decide) ?_
      refine r_ald C h 0 rfl rfl k_7_234 dX5_goesOut_76 ?_
      obtain ⟨j_1, hj_1, hf⟩ := chk_use hf
      refine r_ast C h 0 rfl rfl hj_1 (fun z__ => (wA1 cI s0 z__)) (fun _ => rfl) dX5_goesOut_77 (fun sf_2 esf_2 H locs h => ?_)
      replace hf := nm_use hf esf_2
      refine lv_aload_n hx hb dX5_goesOut_78 rfl (lv_at hl 1 rfl) ?_
      refine lv_bipush (v := 106) hx hb dX5_goesOut_79 (by decide) ?_
      refine lv_iconst (v := 3) hx hb dX5_goesOut_81 (by decide) ?_
      refine lv_iload_n hx hb dX5_goesOut_82 rfl (lv_at hl 2 rfl) ?_
      refine lv_imul hx hb dX5_goesOut_83 ?_
      refine lv_iadd hx hb dX5_goesOut_84 ?_
      refine lv_iconst (v := 1) hx hb dX5_goesOut_85 (by decide) ?_
      refine lv_iadd hx hb dX5_goesOut_86 ?_
      refine lv_iload_n hx hb dX5_goesOut_87 rfl (lv_at hl 0 rfl) ?_
      refine lv_if_eq (tgt := 100) hx hb dX5_goesOut_88 (by decide) (fun _ => ?_) (fun hc => absurd hc (by decide))
      refine lv_bipush (v := (-6)) hx hb dX5_goesOut_100 (by decide) ?_
      obtain ⟨j_3, hj_3, hf⟩ := chk_use hf
      refine r_ast C h 0 rfl rfl hj_3 (fun z__ => (wA1 cI s0 z__)) (fun _ => rfl) dX5_goesOut_102 (fun sf_4 esf_4 H locs h => ?_)
      replace hf := nm_use hf esf_4
      refine lv_aload_n hx hb dX5_goesOut_103 rfl (lv_at hl 1 rfl) ?_
      refine lv_bipush (v := 106) hx hb dX5_goesOut_104 (by decide) ?_
      refine lv_iconst (v := 3) hx hb dX5_goesOut_106 (by decide) ?_
      refine lv_iload_n hx hb dX5_goesOut_107 rfl (lv_at hl 2 rfl) ?_
      refine lv_imul hx hb dX5_goesOut_108 ?_
      refine lv_iadd hx hb dX5_goesOut_109 ?_
      refine lv_iconst (v := 2) hx hb dX5_goesOut_110 (by decide) ?_
      refine lv_iadd hx hb dX5_goesOut_111 ?_
      refine lv_iload_n hx hb dX5_goesOut_112 rfl (lv_at hl 0 rfl) ?_
      refine lv_if_eq (tgt := 125) hx hb dX5_goesOut_113 (by decide) (fun _ => ?_) (fun hc => absurd hc (by decide))
      refine lv_bipush (v := (-6)) hx hb dX5_goesOut_125 (by decide) ?_
      obtain ⟨j_5, hj_5, hf⟩ := chk_use hf
      refine r_ast C h 0 rfl rfl hj_5 (fun z__ => (wA1 cI s0 z__)) (fun _ => rfl) dX5_goesOut_127 (fun sf_6 esf_6 H locs h => ?_)
      replace hf := nm_use hf esf_6
      refine lv_aload_n hx hb dX5_goesOut_128 rfl (lv_at hl 1 rfl) ?_
      refine lv_bipush (v := 13) hx hb dX5_goesOut_129 (by decide) ?_
      refine lv_dup2_11 hx hb dX5_goesOut_131 rfl rfl ?_
      refine r_ald C h 0 rfl rfl k_13_234 dX5_goesOut_132 ?_
      refine lv_iconst (v := 1) hx hb dX5_goesOut_133 (by decide) ?_
      refine lv_iadd hx hb dX5_goesOut_134 ?_
      refine r_ast C h 0 rfl rfl k_13_234 (fun z__ => (wA1 cI s0 z__)) (fun _ => rfl) dX5_goesOut_135 (fun sf_7 esf_7 H locs h => ?_)
      replace hf := nm_use hf esf_7
      refine lv_aload_n hx hb dX5_goesOut_136 rfl (lv_at hl 1 rfl) ?_
      refine lv_bipush (v := 14) hx hb dX5_goesOut_137 (by decide) ?_
      refine lv_dup2_11 hx hb dX5_goesOut_139 rfl rfl ?_
      refine r_ald C h 0 rfl rfl k_14_234 dX5_goesOut_140 ?_
      refine lv_iload_n hx hb dX5_goesOut_141 rfl (lv_at hl 0 rfl) ?_
      refine lv_if_eq (tgt := 149) hx hb dX5_goesOut_142 (by decide) (fun _ => ?_) (fun hc => absurd hc (by decide))
      refine lv_iconst (v := 1) hx hb dX5_goesOut_149 (by decide) ?_
      refine lv_iadd hx hb dX5_goesOut_150 ?_
      refine r_ast C h 0 rfl rfl k_14_234 (fun z__ => (wA1 cI s0 z__)) (fun _ => rfl) dX5_goesOut_151 (fun sf_8 esf_8 H locs h => ?_)
      replace hf := nm_use hf esf_8
      refine lv_iload_n hx hb dX5_goesOut_152 rfl (lv_at hl 0 rfl) ?_
      refine lv_if_eq (tgt := 185) hx hb dX5_goesOut_153 (by decide) (fun _ => ?_) (fun hc => absurd hc (by decide))
      exact cut_185 sf_8 _ _ _ h (lv_sub hl [1] rfl) hf
    · replace hf := it_f hf hc
      refine lv_iconst (v := 1) hx hb dX5_goesOut_47 (by decide) ?_
      refine lv_goto (tgt := 52) hx hb dX5_goesOut_48 (by decide) ?_
      refine lv_istore_n (lv' := [(2, .int 1), (0, .ref s0), (1, .int x1)]) hx hb dX5_goesOut_52 rfl hl (by decide) rfl (fun ls hl => ?_)
      refine lv_aload_n hx hb dX5_goesOut_53 rfl (lv_at hl 1 rfl) ?_
      refine lv_bipush (v := 106) hx hb dX5_goesOut_54 (by decide) ?_
      refine lv_iconst (v := 3) hx hb dX5_goesOut_56 (by decide) ?_
      refine lv_iload_n hx hb dX5_goesOut_57 rfl (lv_at hl 2 rfl) ?_
      refine lv_imul hx hb dX5_goesOut_58 ?_
      refine lv_iadd hx hb dX5_goesOut_59 ?_
      refine lv_iload_n hx hb dX5_goesOut_60 rfl (lv_at hl 0 rfl) ?_
      refine lv_if_eq (tgt := 73) hx hb dX5_goesOut_61 (by decide) (fun hc => absurd hc (by decide)) (fun _ => ?_)
      refine lv_aload_n hx hb dX5_goesOut_64 rfl (lv_at hl 1 rfl) ?_
      refine lv_iconst (v := 0) hx hb dX5_goesOut_65 (by decide) ?_
      refine lv_iconst (v := 2) hx hb dX5_goesOut_66 (by decide) ?_
      obtain ⟨r_9, hq_10, hf⟩ := ob1_use hf
      refine r_callS C h (cw_X5_goesOut_X5_of_47 C.hts) (rest := [.int (106 + (3 * x1)), .ref s0]) (c_X5_of l G cI cC cZ X s0 sf (0 : Int32) (2 : Int32) r_9 hq_10) [0] rfl rfl rfl rfl hl.1 rfl (Nat.le_of_ble_eq_true rfl) ⟨Nat.le_of_ble_eq_true rfl, Nat.le_of_ble_eq_true rfl⟩ (wA1 cI s0 sf) rfl rfl dX5_goesOut_67 (fun H locs h => ?_)
      refine lv_goto (tgt := 77) hx hb dX5_goesOut_70 (by decide) ?_
      obtain ⟨j_11, hj_11, hf⟩ := chk_use hf
      refine r_ast C h 0 rfl rfl hj_11 (fun z__ => (wA1 cI s0 z__)) (fun _ => rfl) dX5_goesOut_77 (fun sf_12 esf_12 H locs h => ?_)
      replace hf := nm_use hf esf_12
      refine lv_aload_n hx hb dX5_goesOut_78 rfl (lv_at hl 1 rfl) ?_
      refine lv_bipush (v := 106) hx hb dX5_goesOut_79 (by decide) ?_
      refine lv_iconst (v := 3) hx hb dX5_goesOut_81 (by decide) ?_
      refine lv_iload_n hx hb dX5_goesOut_82 rfl (lv_at hl 2 rfl) ?_
      refine lv_imul hx hb dX5_goesOut_83 ?_
      refine lv_iadd hx hb dX5_goesOut_84 ?_
      refine lv_iconst (v := 1) hx hb dX5_goesOut_85 (by decide) ?_
      refine lv_iadd hx hb dX5_goesOut_86 ?_
      refine lv_iload_n hx hb dX5_goesOut_87 rfl (lv_at hl 0 rfl) ?_
      refine lv_if_eq (tgt := 100) hx hb dX5_goesOut_88 (by decide) (fun hc => absurd hc (by decide)) (fun _ => ?_)
      refine lv_aload_n hx hb dX5_goesOut_91 rfl (lv_at hl 1 rfl) ?_
      refine lv_iconst (v := 0) hx hb dX5_goesOut_92 (by decide) ?_
      refine lv_iconst (v := 0) hx hb dX5_goesOut_93 (by decide) ?_
      obtain ⟨r_13, hq_14, hf⟩ := ob1_use hf
      refine r_callS C h (cw_X5_goesOut_X5_of_47 C.hts) (rest := [.int ((106 + (3 * x1)) + 1), .ref s0]) (c_X5_of l G cI cC cZ X s0 sf_12 (0 : Int32) (0 : Int32) r_13 hq_14) [0] rfl rfl rfl rfl hl.1 rfl (Nat.le_of_ble_eq_true rfl) ⟨Nat.le_of_ble_eq_true rfl, Nat.le_of_ble_eq_true rfl⟩ (wA1 cI s0 sf_12) rfl rfl dX5_goesOut_94 (fun H locs h => ?_)
      refine lv_goto (tgt := 102) hx hb dX5_goesOut_97 (by decide) ?_
      obtain ⟨j_15, hj_15, hf⟩ := chk_use hf
      refine r_ast C h 0 rfl rfl hj_15 (fun z__ => (wA1 cI s0 z__)) (fun _ => rfl) dX5_goesOut_102 (fun sf_16 esf_16 H locs h => ?_)
      replace hf := nm_use hf esf_16
      refine lv_aload_n hx hb dX5_goesOut_103 rfl (lv_at hl 1 rfl) ?_
      refine lv_bipush (v := 106) hx hb dX5_goesOut_104 (by decide) ?_
      refine lv_iconst (v := 3) hx hb dX5_goesOut_106 (by decide) ?_
      refine lv_iload_n hx hb dX5_goesOut_107 rfl (lv_at hl 2 rfl) ?_
      refine lv_imul hx hb dX5_goesOut_108 ?_
      refine lv_iadd hx hb dX5_goesOut_109 ?_
      refine lv_iconst (v := 2) hx hb dX5_goesOut_110 (by decide) ?_
      refine lv_iadd hx hb dX5_goesOut_111 ?_
      refine lv_iload_n hx hb dX5_goesOut_112 rfl (lv_at hl 0 rfl) ?_
      refine lv_if_eq (tgt := 125) hx hb dX5_goesOut_113 (by decide) (fun hc => absurd hc (by decide)) (fun _ => ?_)
      refine lv_aload_n hx hb dX5_goesOut_116 rfl (lv_at hl 1 rfl) ?_
      refine lv_iconst (v := 0) hx hb dX5_goesOut_117 (by decide) ?_
      refine lv_iconst (v := 1) hx hb dX5_goesOut_118 (by decide) ?_
      obtain ⟨r_17, hq_18, hf⟩ := ob1_use hf
      refine r_callS C h (cw_X5_goesOut_X5_of_47 C.hts) (rest := [.int ((106 + (3 * x1)) + 2), .ref s0]) (c_X5_of l G cI cC cZ X s0 sf_16 (0 : Int32) (1 : Int32) r_17 hq_18) [0] rfl rfl rfl rfl hl.1 rfl (Nat.le_of_ble_eq_true rfl) ⟨Nat.le_of_ble_eq_true rfl, Nat.le_of_ble_eq_true rfl⟩ (wA1 cI s0 sf_16) rfl rfl dX5_goesOut_119 (fun H locs h => ?_)
      refine lv_goto (tgt := 127) hx hb dX5_goesOut_122 (by decide) ?_
      obtain ⟨j_19, hj_19, hf⟩ := chk_use hf
      refine r_ast C h 0 rfl rfl hj_19 (fun z__ => (wA1 cI s0 z__)) (fun _ => rfl) dX5_goesOut_127 (fun sf_20 esf_20 H locs h => ?_)
      replace hf := nm_use hf esf_20
      refine lv_aload_n hx hb dX5_goesOut_128 rfl (lv_at hl 1 rfl) ?_
      refine lv_bipush (v := 13) hx hb dX5_goesOut_129 (by decide) ?_
      refine lv_dup2_11 hx hb dX5_goesOut_131 rfl rfl ?_
      refine r_ald C h 0 rfl rfl k_13_234 dX5_goesOut_132 ?_
      refine lv_iconst (v := 1) hx hb dX5_goesOut_133 (by decide) ?_
      refine lv_iadd hx hb dX5_goesOut_134 ?_
      refine r_ast C h 0 rfl rfl k_13_234 (fun z__ => (wA1 cI s0 z__)) (fun _ => rfl) dX5_goesOut_135 (fun sf_21 esf_21 H locs h => ?_)
      replace hf := nm_use hf esf_21
      refine lv_aload_n hx hb dX5_goesOut_136 rfl (lv_at hl 1 rfl) ?_
      refine lv_bipush (v := 14) hx hb dX5_goesOut_137 (by decide) ?_
      refine lv_dup2_11 hx hb dX5_goesOut_139 rfl rfl ?_
      refine r_ald C h 0 rfl rfl k_14_234 dX5_goesOut_140 ?_
      refine lv_iload_n hx hb dX5_goesOut_141 rfl (lv_at hl 0 rfl) ?_
      refine lv_if_eq (tgt := 149) hx hb dX5_goesOut_142 (by decide) (fun hc => absurd hc (by decide)) (fun _ => ?_)
      refine lv_iconst (v := 0) hx hb dX5_goesOut_145 (by decide) ?_
      refine lv_goto (tgt := 150) hx hb dX5_goesOut_146 (by decide) ?_
      refine lv_iadd hx hb dX5_goesOut_150 ?_
      refine r_ast C h 0 rfl rfl k_14_234 (fun z__ => (wA1 cI s0 z__)) (fun _ => rfl) dX5_goesOut_151 (fun sf_22 esf_22 H locs h => ?_)
      replace hf := nm_use hf esf_22
      refine lv_iload_n hx hb dX5_goesOut_152 rfl (lv_at hl 0 rfl) ?_
      refine lv_if_eq (tgt := 185) hx hb dX5_goesOut_153 (by decide) (fun hc => absurd hc (by decide)) (fun _ => ?_)
      refine lv_aload_n hx hb dX5_goesOut_156 rfl (lv_at hl 1 rfl) ?_
      refine lv_bipush (v := 45) hx hb dX5_goesOut_157 (by decide) ?_
      refine lv_dup2_11 hx hb dX5_goesOut_159 rfl rfl ?_
      refine r_ald C h 0 rfl rfl k_45_234 dX5_goesOut_160 ?_
      refine lv_iconst (v := 1) hx hb dX5_goesOut_161 (by decide) ?_
      refine lv_iadd hx hb dX5_goesOut_162 ?_
      refine r_ast C h 0 rfl rfl k_45_234 (fun z__ => (wA1 cI s0 z__)) (fun _ => rfl) dX5_goesOut_163 (fun sf_23 esf_23 H locs h => ?_)
      replace hf := nm_use hf esf_23
      refine lv_aload_n hx hb dX5_goesOut_164 rfl (lv_at hl 1 rfl) ?_
      refine lv_bipush (v := 45) hx hb dX5_goesOut_165 (by decide) ?_
      refine r_ald C h 0 rfl rfl k_45_234 dX5_goesOut_167 ?_
      refine lv_iconst (v := 2) hx hb dX5_goesOut_168 (by decide) ?_
      refine lv_icmp_ne (tgt := 185) hx hb dX5_goesOut_169 (by decide) (fun hc => ?_) (fun hc => ?_)
      · replace hf := it_f hf hc
        exact cut_185 sf_23 _ _ _ h (lv_sub hl [1] rfl) hf
      · replace hf := it_t hf hc
        refine lv_aload_n hx hb dX5_goesOut_172 rfl (lv_at hl 1 rfl) ?_
        refine lv_bipush (v := 11) hx hb dX5_goesOut_173 (by decide) ?_
        refine lv_dup2_11 hx hb dX5_goesOut_175 rfl rfl ?_
        refine r_ald C h 0 rfl rfl k_11_234 dX5_goesOut_176 ?_
        refine lv_iconst (v := 1) hx hb dX5_goesOut_177 (by decide) ?_
        refine lv_iadd hx hb dX5_goesOut_178 ?_
        refine r_ast C h 0 rfl rfl k_11_234 (fun z__ => (wA1 cI s0 z__)) (fun _ => rfl) dX5_goesOut_179 (fun sf_24 esf_24 H locs h => ?_)
        replace hf := nm_use hf esf_24
        refine lv_aload_n hx hb dX5_goesOut_180 rfl (lv_at hl 1 rfl) ?_
        refine lv_iconst (v := 0) hx hb dX5_goesOut_181 (by decide) ?_
        obtain ⟨sf_25, hq_26, hf⟩ := ob1_use hf
        refine r_callS C h (cw_X5_goesOut_X5_leaves_55 C.hts) (rest := []) (c_X5_leaves l G cI cC cZ X s0 sf_24 (0 : Int32) sf_25 hq_26) [0] rfl rfl rfl rfl hl.1 rfl (Nat.le_of_ble_eq_true rfl) ⟨Nat.le_of_ble_eq_true rfl, Nat.le_of_ble_eq_true rfl⟩ (wA1 cI s0 sf_25) rfl rfl dX5_goesOut_182 (fun H locs h => ?_)
        exact cut_185 sf_25 _ _ _ h (lv_sub hl [1] rfl) hf
  have cut_5 : ∀ (n : Nat) (sf : Nat → Int32) (x1 : Int32) (H : Heap) (locs : List Loc) (ls : Array Slot), Hx s G A (wA1 cI s0 sf) H locs → lv_has ls 3 [(0, .ref s0), (1, .int x1)] → fX5_goesOut_5 n sf x1 = some (sf') → W p l e rm_X5_goesOut s m args below meth c H locs 0 0 (MQ below (Qx G none (wA1 cI s0 sf') A) args s 0 0 A) (F0 m 5 ls []) := by
    intro n
    induction n with
    | zero =>
      intro sf x1 H locs ls h hl hf
      exact (nn_some _ hf).elim
    | succ n ih =>
      intro sf x1 H locs ls h hl hf
      have hf : fX5_goesOut_5_b (fX5_goesOut_5 n) sf x1 = some (sf') := hf
      unfold fX5_goesOut_5_b at hf
      refine lv_aload_n hx hb dX5_goesOut_5 rfl (lv_at hl 0 rfl) ?_
      refine lv_bipush (v := 6) hx hb dX5_goesOut_6 (by decide) ?_
      refine r_ald C h 0 rfl rfl k_6_234 dX5_goesOut_8 ?_
      refine lv_iconst (v := 1) hx hb dX5_goesOut_9 (by decide) ?_
      refine lv_icmp_ne (tgt := 40) hx hb dX5_goesOut_10 (by decide) (fun hc => ?_) (fun hc => ?_)
      · replace hf := it_f hf hc
        exact cut_40 sf x1 _ _ _ h (lv_sub hl [0, 1] rfl) hf
      · replace hf := it_t hf hc
        refine lv_iload_n hx hb dX5_goesOut_13 rfl (lv_at hl 1 rfl) ?_
        refine lv_if_ne (tgt := 40) hx hb dX5_goesOut_14 (by decide) (fun hc => ?_) (fun hc => ?_)
        · replace hf := it_f hf hc
          exact cut_40 sf x1 _ _ _ h (lv_sub hl [0, 1] rfl) hf
        · replace hf := it_t hf hc
          refine lv_aload_n hx hb dX5_goesOut_17 rfl (lv_at hl 0 rfl) ?_
          refine lv_bipush (v := 10) hx hb dX5_goesOut_18 (by decide) ?_
          refine r_ald C h 0 rfl rfl k_10_234 dX5_goesOut_20 ?_
          refine lv_if_le (tgt := 40) hx hb dX5_goesOut_21 (by decide) (fun hc => ?_) (fun hc => ?_)
          · replace hf := it_t hf hc
            exact cut_40 sf x1 _ _ _ h (lv_sub hl [0, 1] rfl) hf
          · replace hf := it_f hf hc
            refine lv_aload_n hx hb dX5_goesOut_24 rfl (lv_at hl 0 rfl) ?_
            obtain ⟨r_1, hq_2, hf⟩ := ob1_use hf
            refine r_callS C h (cw_X5_goesOut_X5_isBegin_71 C.hts) (rest := []) (c_X5_isBegin l G cI cC cZ X s0 sf r_1 hq_2) [0] rfl rfl rfl rfl hl.1 rfl (Nat.le_of_ble_eq_true rfl) ⟨Nat.le_of_ble_eq_true rfl, Nat.le_of_ble_eq_true rfl⟩ (wA1 cI s0 sf) rfl rfl dX5_goesOut_25 (fun H locs h => ?_)
            refine lv_if_ne (tgt := 40) hx hb dX5_goesOut_28 (by decide) (fun hc => ?_) (fun hc => ?_)
            · replace hf := it_f hf hc
              exact cut_40 sf x1 _ _ _ h (lv_sub hl [0, 1] rfl) hf
            · replace hf := it_t hf hc
              refine lv_aload_n hx hb dX5_goesOut_31 rfl (lv_at hl 0 rfl) ?_
              refine lv_iconst (v := 0) hx hb dX5_goesOut_32 (by decide) ?_
              refine lv_iconst (v := 2) hx hb dX5_goesOut_33 (by decide) ?_
              obtain ⟨sf_3, hq_4, hf⟩ := ob1_use hf
              refine r_callS C h (cw_X5_goesOut_X5_loses_67 C.hts) (rest := []) (c_X5_loses l G cI cC cZ X s0 sf (0 : Int32) (2 : Int32) sf_3 hq_4) [0] rfl rfl rfl rfl hl.1 rfl (Nat.le_of_ble_eq_true rfl) ⟨Nat.le_of_ble_eq_true rfl, Nat.le_of_ble_eq_true rfl⟩ (wA1 cI s0 sf_3) rfl rfl dX5_goesOut_34 (fun H locs h => ?_)
              refine lv_goto (tgt := 5) hx hb dX5_goesOut_37 (by decide) ?_
              exact ih sf_3 x1 _ _ _ h (lv_sub hl [0, 1] rfl) hf
  unfold fX5_goesOut at hf
  refine lv_aload_n hx hb dX5_goesOut_0 rfl (lv_at hl 0 rfl) ?_
  refine lv_bipush (v := 15) hx hb dX5_goesOut_1 (by decide) ?_
  refine r_ald C h 0 rfl rfl k_15_234 dX5_goesOut_3 ?_
  refine lv_topi (fun x1_1 ex1_1 => ?_)
  replace hf := nm_use hf ex1_1
  refine lv_istore_n (lv' := [(1, .int x1_1), (0, .ref s0)]) hx hb dX5_goesOut_4 rfl hl (by decide) rfl (fun ls hl => ?_)
  exact cut_5 KF sf x1_1 _ _ _ h (lv_sub hl [1, 0] rfl) hf
def rm_X5_ticks : Room := { frames := 3, cells := 0, slots := 0, locals := 68 }
set_option maxRecDepth 20000 in
theorem cw_X5_ticks_X5_comes_78 {s : State} {args : Array Value} (hts : ∀ w ∈ wsX5_ticks, w.before args s = true) : CallB rm_X5_ticks s args RX5 78 yX5_comes cX5_comes 2 none wsX5_comes rm_X5_comes 0 0 1 ∧ (Cond.static yX5_comes).before args s = true :=
  va_cwS 1 hts gX5_ticks_X5_comes rfl rfl rfl (by decide +kernel) ⟨Nat.le_of_ble_eq_true rfl, Nat.le_of_ble_eq_true rfl⟩
set_option maxRecDepth 20000 in
theorem cw_X5_ticks_X5_goesOut_81 {s : State} {args : Array Value} (hts : ∀ w ∈ wsX5_ticks, w.before args s = true) : CallB rm_X5_ticks s args RX5 81 yX5_goesOut cX5_goesOut 3 none wsX5_goesOut rm_X5_goesOut 0 0 1 ∧ (Cond.static yX5_goesOut).before args s = true :=
  va_cwS 1 hts gX5_ticks_X5_goesOut rfl rfl rfl (by decide +kernel) ⟨Nat.le_of_ble_eq_true rfl, Nat.le_of_ble_eq_true rfl⟩
set_option maxHeartbeats 4000000 in
set_option maxRecDepth 100000 in
theorem c_X5_ticks (l : Launch) (G : va_G) (cI cC cZ : ClassId) (X : List (ClassId × FieldType)) (s0 : Nat) (sf : Nat → Int32) (sf' : Nat → Int32) (hf : fX5_ticks sf = some (sf')) : CT l yX5_ticks wsX5_ticks rm_X5_ticks G (TY cI cC cZ X) [.ref s0] (wA1 cI s0 sf) none (wA1 cI s0 sf') := by
  refine CT.of (cc := cX5_ticks) (maxL := 1) (ret := none) RX5 rfl (by decide) rfl (Nat.le_of_ble_eq_true rfl) ?_
  intro p e s m args below meth c A ls C hr hlocks hnm h hl
  have hx := C.hx
  have hb := C.hb
  have hl : lv_has ls 1 [(0, .ref s0)] := hl
  have cut_28 : ∀ (sf : Nat → Int32) (H : Heap) (locs : List Loc) (ls : Array Slot), Hx s G A (wA1 cI s0 sf) H locs → lv_has ls 1 [(0, .ref s0)] → fX5_ticks_28 sf = some (sf') → W p l e rm_X5_ticks s m args below meth c H locs 0 0 (MQ below (Qx G none (wA1 cI s0 sf') A) args s 0 0 A) (F0 m 28 ls []) := by
    intro sf H locs ls h hl hf
    unfold fX5_ticks_28 at hf
    refine lv_aload_n hx hb dX5_ticks_28 rfl (lv_at hl 0 rfl) ?_
    refine lv_iconst (v := 0) hx hb dX5_ticks_29 (by decide) ?_
    refine lv_dup2_11 hx hb dX5_ticks_30 rfl rfl ?_
    refine r_ald C h 0 rfl rfl k_0_234 dX5_ticks_31 ?_
    refine lv_iconst (v := 1) hx hb dX5_ticks_32 (by decide) ?_
    refine lv_iadd hx hb dX5_ticks_33 ?_
    refine r_ast C h 0 rfl rfl k_0_234 (fun z__ => (wA1 cI s0 z__)) (fun _ => rfl) dX5_ticks_34 (fun sf_1 esf_1 H locs h => ?_)
    replace hf := nm_use hf esf_1
    refine lv_aload_n hx hb dX5_ticks_35 rfl (lv_at hl 0 rfl) ?_
    refine lv_bipush (v := 25) hx hb dX5_ticks_36 (by decide) ?_
    refine lv_dup2_11 hx hb dX5_ticks_38 rfl rfl ?_
    refine r_ald C h 0 rfl rfl k_25_234 dX5_ticks_39 ?_
    refine lv_aload_n hx hb dX5_ticks_40 rfl (lv_at hl 0 rfl) ?_
    refine lv_bipush (v := 10) hx hb dX5_ticks_41 (by decide) ?_
    refine r_ald C h 0 rfl rfl k_10_234 dX5_ticks_43 ?_
    refine lv_iadd hx hb dX5_ticks_44 ?_
    refine r_ast C h 0 rfl rfl k_25_234 (fun z__ => (wA1 cI s0 z__)) (fun _ => rfl) dX5_ticks_45 (fun sf_2 esf_2 H locs h => ?_)
    replace hf := nm_use hf esf_2
    cases hf
    exact r_vret C h hr hlocks dX5_ticks_46
  have cut_14 : ∀ (sf : Nat → Int32) (H : Heap) (locs : List Loc) (ls : Array Slot), Hx s G A (wA1 cI s0 sf) H locs → lv_has ls 1 [(0, .ref s0)] → fX5_ticks_14 sf = some (sf') → W p l e rm_X5_ticks s m args below meth c H locs 0 0 (MQ below (Qx G none (wA1 cI s0 sf') A) args s 0 0 A) (F0 m 14 ls []) := by
    intro sf H locs ls h hl hf
    unfold fX5_ticks_14 at hf
    refine lv_aload_n hx hb dX5_ticks_14 rfl (lv_at hl 0 rfl) ?_
    refine lv_bipush (v := 19) hx hb dX5_ticks_15 (by decide) ?_
    refine r_ald C h 0 rfl rfl k_19_234 dX5_ticks_17 ?_
    refine lv_aload_n hx hb dX5_ticks_18 rfl (lv_at hl 0 rfl) ?_
    refine lv_iconst (v := 0) hx hb dX5_ticks_19 (by decide) ?_
    refine r_ald C h 0 rfl rfl k_0_234 dX5_ticks_20 ?_
    refine lv_icmp_ne (tgt := 28) hx hb dX5_ticks_21 (by decide) (fun hc => ?_) (fun hc => ?_)
    · replace hf := it_f hf hc
      exact cut_28 sf _ _ _ h (lv_sub hl [0] rfl) hf
    · replace hf := it_t hf hc
      refine lv_aload_n hx hb dX5_ticks_24 rfl (lv_at hl 0 rfl) ?_
      obtain ⟨sf_1, hq_2, hf⟩ := ob1_use hf
      refine r_callS C h (cw_X5_ticks_X5_goesOut_81 C.hts) (rest := []) (c_X5_goesOut l G cI cC cZ X s0 sf sf_1 hq_2) [0] rfl rfl rfl rfl hl.1 rfl (Nat.le_of_ble_eq_true rfl) ⟨Nat.le_of_ble_eq_true rfl, Nat.le_of_ble_eq_true rfl⟩ (wA1 cI s0 sf_1) rfl rfl dX5_ticks_25 (fun H locs h => ?_)
      exact cut_28 sf_1 _ _ _ h (lv_sub hl [0] rfl) hf
  unfold fX5_ticks at hf
  refine lv_aload_n hx hb dX5_ticks_0 rfl (lv_at hl 0 rfl) ?_
  refine lv_bipush (v := 18) hx hb dX5_ticks_1 (by decide) ?_
  refine r_ald C h 0 rfl rfl k_18_234 dX5_ticks_3 ?_
  refine lv_aload_n hx hb dX5_ticks_4 rfl (lv_at hl 0 rfl) ?_
  refine lv_iconst (v := 0) hx hb dX5_ticks_5 (by decide) ?_
  refine r_ald C h 0 rfl rfl k_0_234 dX5_ticks_6 ?_
  refine lv_icmp_ne (tgt := 14) hx hb dX5_ticks_7 (by decide) (fun hc => ?_) (fun hc => ?_)
  · replace hf := it_f hf hc
    exact cut_14 sf _ _ _ h (lv_sub hl [0] rfl) hf
  · replace hf := it_t hf hc
    refine lv_aload_n hx hb dX5_ticks_10 rfl (lv_at hl 0 rfl) ?_
    obtain ⟨sf_1, hq_2, hf⟩ := ob1_use hf
    refine r_callS C h (cw_X5_ticks_X5_comes_78 C.hts) (rest := []) (c_X5_comes l G cI cC cZ X s0 sf sf_1 hq_2) [0] rfl rfl rfl rfl hl.1 rfl (Nat.le_of_ble_eq_true rfl) ⟨Nat.le_of_ble_eq_true rfl, Nat.le_of_ble_eq_true rfl⟩ (wA1 cI s0 sf_1) rfl rfl dX5_ticks_11 (fun H locs h => ?_)
    exact cut_14 sf_1 _ _ _ h (lv_sub hl [0] rfl) hf
def rm_X5_passes : Room := { frames := 4, cells := 0, slots := 0, locals := 88 }
set_option maxRecDepth 20000 in
theorem cw_X5_passes_X5_ticks_84 {s : State} {args : Array Value} (hts : ∀ w ∈ wsX5_passes, w.before args s = true) : CallB rm_X5_passes s args RX5 84 yX5_ticks cX5_ticks 1 none wsX5_ticks rm_X5_ticks 0 0 1 ∧ (Cond.static yX5_ticks).before args s = true :=
  va_cwS 1 hts gX5_passes_X5_ticks rfl rfl rfl (by decide +kernel) ⟨Nat.le_of_ble_eq_true rfl, Nat.le_of_ble_eq_true rfl⟩
set_option maxHeartbeats 4000000 in
set_option maxRecDepth 100000 in
theorem c_X5_passes (l : Launch) (G : va_G) (cI cC cZ : ClassId) (X : List (ClassId × FieldType)) (s0 : Nat) (sf : Nat → Int32) (x1 : Int32) (sf' : Nat → Int32) (hf : fX5_passes sf x1 = some (sf')) : CT l yX5_passes wsX5_passes rm_X5_passes G (TY cI cC cZ X) [.ref s0, .int x1] (wA1 cI s0 sf) none (wA1 cI s0 sf') := by
  refine CT.of (cc := cX5_passes) (maxL := 3) (ret := none) RX5 rfl (by decide) rfl (Nat.le_of_ble_eq_true rfl) ?_
  intro p e s m args below meth c A ls C hr hlocks hnm h hl
  have hx := C.hx
  have hb := C.hb
  have hl : lv_has ls 3 [(0, .ref s0), (1, .int x1)] := hl
  have cut_2 : ∀ (n : Nat) (sf : Nat → Int32) (x1 : Int32) (x2 : Int32) (H : Heap) (locs : List Loc) (ls : Array Slot), Hx s G A (wA1 cI s0 sf) H locs → lv_has ls 3 [(0, .ref s0), (1, .int x1), (2, .int x2)] → fX5_passes_2 n sf x1 x2 = some (sf') → W p l e rm_X5_passes s m args below meth c H locs 0 0 (MQ below (Qx G none (wA1 cI s0 sf') A) args s 0 0 A) (F0 m 2 ls []) := by
    intro n
    induction n with
    | zero =>
      intro sf x1 x2 H locs ls h hl hf
      exact (nn_some _ hf).elim
    | succ n ih =>
      intro sf x1 x2 H locs ls h hl hf
      have hf : fX5_passes_2_b (fX5_passes_2 n) sf x1 x2 = some (sf') := hf
      unfold fX5_passes_2_b at hf
      refine lv_iload_n hx hb dX5_passes_2 rfl (lv_at hl 2 rfl) ?_
      refine lv_iload_n hx hb dX5_passes_3 rfl (lv_at hl 1 rfl) ?_
      refine lv_icmp_ge (tgt := 17) hx hb dX5_passes_4 (by decide) (fun hc => ?_) (fun hc => ?_)
      · replace hf := it_t hf hc
        cases hf
        exact r_vret C h hr hlocks dX5_passes_17
      · replace hf := it_f hf hc
        refine lv_aload_n hx hb dX5_passes_7 rfl (lv_at hl 0 rfl) ?_
        obtain ⟨sf_1, hq_2, hf⟩ := ob1_use hf
        refine r_callS C h (cw_X5_passes_X5_ticks_84 C.hts) (rest := []) (c_X5_ticks l G cI cC cZ X s0 sf sf_1 hq_2) [0] rfl rfl rfl rfl hl.1 rfl (Nat.le_of_ble_eq_true rfl) ⟨Nat.le_of_ble_eq_true rfl, Nat.le_of_ble_eq_true rfl⟩ (wA1 cI s0 sf_1) rfl rfl dX5_passes_8 (fun H locs h => ?_)
        obtain ⟨x2_3, ex2_3⟩ : ∃ y : Int32, y = x2 + 1 := ⟨_, rfl⟩
        replace hf := nm_use hf ex2_3
        refine lv_iinc (v := x2_3) (lv' := [(2, .int x2_3), (0, .ref s0), (1, .int x1)]) hx hb dX5_passes_11 hl (k := 2) rfl (by rw [ex2_3]; rfl) (by decide) rfl (fun ls hl => ?_)
        refine lv_goto (tgt := 2) hx hb dX5_passes_14 (by decide) ?_
        exact ih sf_1 x1 x2_3 _ _ _ h (lv_sub hl [1, 2, 0] rfl) hf
  unfold fX5_passes at hf
  refine lv_iconst (v := 0) hx hb dX5_passes_0 (by decide) ?_
  refine lv_istore_n (lv' := [(2, .int 0), (0, .ref s0), (1, .int x1)]) hx hb dX5_passes_1 rfl hl (by decide) rfl (fun ls hl => ?_)
  exact cut_2 KF sf x1 0 _ _ _ h (lv_sub hl [1, 2, 0] rfl) hf
def rm_X5_isFor : Room := { frames := 1, cells := 0, slots := 0, locals := 22 }
set_option maxRecDepth 20000 in
theorem cw_X5_isFor_X5_in_40 {s : State} {args : Array Value} (hts : ∀ w ∈ wsX5_isFor, w.before args s = true) : CallB rm_X5_isFor s args RX5 40 yX5_in cX5_in 3 (some .boolean) wsX5_in rm_X5_in 0 0 3 ∧ (Cond.static yX5_in).before args s = true :=
  va_cwS 3 hts gX5_isFor_X5_in rfl rfl rfl (by decide +kernel) ⟨Nat.le_of_ble_eq_true rfl, Nat.le_of_ble_eq_true rfl⟩
theorem sw_df_X5_isFor_1 (x : Int32) (h0 : ¬ x = 0) (h1 : ¬ x = 1) (h2 : ¬ x = 2) (h3 : ¬ x = 3) (h4 : ¬ x = 4) (h5 : ¬ x = 5) : x.toInt < 0 ∨ 5 < x.toInt := by
  have q0 := lv_neT (a := 0) h0 rfl
  have q1 := lv_neT (a := 1) h1 rfl
  have q2 := lv_neT (a := 2) h2 rfl
  have q3 := lv_neT (a := 3) h3 rfl
  have q4 := lv_neT (a := 4) h4 rfl
  have q5 := lv_neT (a := 5) h5 rfl
  omega
set_option maxHeartbeats 4000000 in
set_option maxRecDepth 100000 in
theorem c_X5_isFor (l : Launch) (G : va_G) (cI cC cZ : ClassId) (X : List (ClassId × FieldType)) (x0 : Int32) (x1 : Int32) (rv : Int32) (hf : fX5_isFor x0 x1 = some (rv)) : CT l yX5_isFor wsX5_isFor rm_X5_isFor G (TY cI cC cZ X) [.int x0, .int x1] ([] : va_W) (some (.int rv)) ([] : va_W) := by
  refine CT.of (cc := cX5_isFor) (maxL := 2) (ret := (some .boolean)) RX5 rfl (by decide) rfl (Nat.le_of_ble_eq_true rfl) ?_
  intro p e s m args below meth c A ls C hr hlocks hnm h hl
  have hx := C.hx
  have hb := C.hb
  have hl : lv_has ls 2 [(0, .int x0), (1, .int x1)] := hl
  unfold fX5_isFor at hf
  refine lv_iload_n hx hb dX5_isFor_0 rfl (lv_at hl 0 rfl) ?_
  by_cases hk0 : x0 = 0
  · replace hf := it_t hf hk0
    refine lv_tableIn (tgt := 40) hx hb dX5_isFor_1 (by rw [hk0]; decide) (by rw [hk0]; decide) (by rw [hk0]; rfl) (by decide) ?_
    refine lv_iload_n hx hb dX5_isFor_40 rfl (lv_at hl 1 rfl) ?_
    refine lv_iconst (v := 2) hx hb dX5_isFor_41 (by decide) ?_
    refine lv_bipush (v := 99) hx hb dX5_isFor_42 (by decide) ?_
    obtain ⟨r_1, hq_2, hf⟩ := ob1_use hf
    refine r_callS C h (cw_X5_isFor_X5_in_40 C.hts) (rest := []) (c_X5_in l G cI cC cZ X x1 (2 : Int32) (99 : Int32) r_1 hq_2) [] rfl rfl rfl rfl hl.1 rfl (Nat.le_of_ble_eq_true rfl) ⟨Nat.le_of_ble_eq_true rfl, Nat.le_of_ble_eq_true rfl⟩ ([] : va_W) rfl rfl dX5_isFor_44 (fun H locs h => ?_)
    obtain ⟨hz, hf⟩ := nd_use hf
    cases hf
    exact r_zret C h hr hlocks (by rcases hz with hz | hz <;> rw [hz] <;> rfl) dX5_isFor_47
  · replace hf := it_f hf hk0
    by_cases hk1 : x0 = 1
    · replace hf := it_t hf hk1
      refine lv_tableIn (tgt := 48) hx hb dX5_isFor_1 (by rw [hk1]; decide) (by rw [hk1]; decide) (by rw [hk1]; rfl) (by decide) ?_
      refine lv_iload_n hx hb dX5_isFor_48 rfl (lv_at hl 1 rfl) ?_
      refine lv_iconst (v := 1) hx hb dX5_isFor_49 (by decide) ?_
      refine lv_bipush (v := 99) hx hb dX5_isFor_50 (by decide) ?_
      obtain ⟨r_3, hq_4, hf⟩ := ob1_use hf
      refine r_callS C h (cw_X5_isFor_X5_in_40 C.hts) (rest := []) (c_X5_in l G cI cC cZ X x1 (1 : Int32) (99 : Int32) r_3 hq_4) [] rfl rfl rfl rfl hl.1 rfl (Nat.le_of_ble_eq_true rfl) ⟨Nat.le_of_ble_eq_true rfl, Nat.le_of_ble_eq_true rfl⟩ ([] : va_W) rfl rfl dX5_isFor_52 (fun H locs h => ?_)
      obtain ⟨hz, hf⟩ := nd_use hf
      cases hf
      exact r_zret C h hr hlocks (by rcases hz with hz | hz <;> rw [hz] <;> rfl) dX5_isFor_55
    · replace hf := it_f hf hk1
      by_cases hk2 : x0 = 2
      · replace hf := it_t hf hk2
        refine lv_tableIn (tgt := 56) hx hb dX5_isFor_1 (by rw [hk2]; decide) (by rw [hk2]; decide) (by rw [hk2]; rfl) (by decide) ?_
        refine lv_iload_n hx hb dX5_isFor_56 rfl (lv_at hl 1 rfl) ?_
        refine lv_iconst (v := 1) hx hb dX5_isFor_57 (by decide) ?_
        refine lv_bipush (v := 16) hx hb dX5_isFor_58 (by decide) ?_
        obtain ⟨r_5, hq_6, hf⟩ := ob1_use hf
        refine r_callS C h (cw_X5_isFor_X5_in_40 C.hts) (rest := []) (c_X5_in l G cI cC cZ X x1 (1 : Int32) (16 : Int32) r_5 hq_6) [] rfl rfl rfl rfl hl.1 rfl (Nat.le_of_ble_eq_true rfl) ⟨Nat.le_of_ble_eq_true rfl, Nat.le_of_ble_eq_true rfl⟩ ([] : va_W) rfl rfl dX5_isFor_60 (fun H locs h => ?_)
        obtain ⟨hz, hf⟩ := nd_use hf
        cases hf
        exact r_zret C h hr hlocks (by rcases hz with hz | hz <;> rw [hz] <;> rfl) dX5_isFor_63
      · replace hf := it_f hf hk2
        by_cases hk3 : x0 = 3
        · replace hf := it_t hf hk3
          refine lv_tableIn (tgt := 64) hx hb dX5_isFor_1 (by rw [hk3]; decide) (by rw [hk3]; decide) (by rw [hk3]; rfl) (by decide) ?_
          refine lv_iload_n hx hb dX5_isFor_64 rfl (lv_at hl 1 rfl) ?_
          refine lv_iconst (v := 2) hx hb dX5_isFor_65 (by decide) ?_
          refine lv_bipush (v := 16) hx hb dX5_isFor_66 (by decide) ?_
          obtain ⟨r_7, hq_8, hf⟩ := ob1_use hf
          refine r_callS C h (cw_X5_isFor_X5_in_40 C.hts) (rest := []) (c_X5_in l G cI cC cZ X x1 (2 : Int32) (16 : Int32) r_7 hq_8) [] rfl rfl rfl rfl hl.1 rfl (Nat.le_of_ble_eq_true rfl) ⟨Nat.le_of_ble_eq_true rfl, Nat.le_of_ble_eq_true rfl⟩ ([] : va_W) rfl rfl dX5_isFor_68 (fun H locs h => ?_)
          obtain ⟨hz, hf⟩ := nd_use hf
          cases hf
          exact r_zret C h hr hlocks (by rcases hz with hz | hz <;> rw [hz] <;> rfl) dX5_isFor_71
        · replace hf := it_f hf hk3
          by_cases hk4 : x0 = 4
          · replace hf := it_t hf hk4
            refine lv_tableIn (tgt := 72) hx hb dX5_isFor_1 (by rw [hk4]; decide) (by rw [hk4]; decide) (by rw [hk4]; rfl) (by decide) ?_
            refine lv_iload_n hx hb dX5_isFor_72 rfl (lv_at hl 1 rfl) ?_
            refine lv_iconst (v := 0) hx hb dX5_isFor_73 (by decide) ?_
            refine lv_iconst (v := 1) hx hb dX5_isFor_74 (by decide) ?_
            obtain ⟨r_9, hq_10, hf⟩ := ob1_use hf
            refine r_callS C h (cw_X5_isFor_X5_in_40 C.hts) (rest := []) (c_X5_in l G cI cC cZ X x1 (0 : Int32) (1 : Int32) r_9 hq_10) [] rfl rfl rfl rfl hl.1 rfl (Nat.le_of_ble_eq_true rfl) ⟨Nat.le_of_ble_eq_true rfl, Nat.le_of_ble_eq_true rfl⟩ ([] : va_W) rfl rfl dX5_isFor_75 (fun H locs h => ?_)
            obtain ⟨hz, hf⟩ := nd_use hf
            cases hf
            exact r_zret C h hr hlocks (by rcases hz with hz | hz <;> rw [hz] <;> rfl) dX5_isFor_78
          · replace hf := it_f hf hk4
            by_cases hk5 : x0 = 5
            · replace hf := it_t hf hk5
              refine lv_tableIn (tgt := 72) hx hb dX5_isFor_1 (by rw [hk5]; decide) (by rw [hk5]; decide) (by rw [hk5]; rfl) (by decide) ?_
              refine lv_iload_n hx hb dX5_isFor_72 rfl (lv_at hl 1 rfl) ?_
              refine lv_iconst (v := 0) hx hb dX5_isFor_73 (by decide) ?_
              refine lv_iconst (v := 1) hx hb dX5_isFor_74 (by decide) ?_
              obtain ⟨r_11, hq_12, hf⟩ := ob1_use hf
              refine r_callS C h (cw_X5_isFor_X5_in_40 C.hts) (rest := []) (c_X5_in l G cI cC cZ X x1 (0 : Int32) (1 : Int32) r_11 hq_12) [] rfl rfl rfl rfl hl.1 rfl (Nat.le_of_ble_eq_true rfl) ⟨Nat.le_of_ble_eq_true rfl, Nat.le_of_ble_eq_true rfl⟩ ([] : va_W) rfl rfl dX5_isFor_75 (fun H locs h => ?_)
              obtain ⟨hz, hf⟩ := nd_use hf
              cases hf
              exact r_zret C h hr hlocks (by rcases hz with hz | hz <;> rw [hz] <;> rfl) dX5_isFor_78
            · replace hf := it_f hf hk5
              refine lv_tableOut (tgt := 79) hx hb dX5_isFor_1 (sw_df_X5_isFor_1 x0 hk0 hk1 hk2 hk3 hk4 hk5) (by decide) ?_
              refine lv_iload_n hx hb dX5_isFor_79 rfl (lv_at hl 1 rfl) ?_
              refine lv_iconst (v := 0) hx hb dX5_isFor_80 (by decide) ?_
              refine lv_sipush (v := 255) hx hb dX5_isFor_81 (by decide) ?_
              obtain ⟨r_13, hq_14, hf⟩ := ob1_use hf
              refine r_callS C h (cw_X5_isFor_X5_in_40 C.hts) (rest := []) (c_X5_in l G cI cC cZ X x1 (0 : Int32) (255 : Int32) r_13 hq_14) [] rfl rfl rfl rfl hl.1 rfl (Nat.le_of_ble_eq_true rfl) ⟨Nat.le_of_ble_eq_true rfl, Nat.le_of_ble_eq_true rfl⟩ ([] : va_W) rfl rfl dX5_isFor_84 (fun H locs h => ?_)
              obtain ⟨hz, hf⟩ := nd_use hf
              cases hf
              exact r_zret C h hr hlocks (by rcases hz with hz | hz <;> rw [hz] <;> rfl) dX5_isFor_87
def rm_X5_mayTell : Room := { frames := 1, cells := 0, slots := 0, locals := 22 }
set_option maxRecDepth 20000 in
theorem cw_X5_mayTell_X5_in_40 {s : State} {args : Array Value} (hts : ∀ w ∈ wsX5_mayTell, w.before args s = true) : CallB rm_X5_mayTell s args RX5 40 yX5_in cX5_in 3 (some .boolean) wsX5_in rm_X5_in 0 0 3 ∧ (Cond.static yX5_in).before args s = true :=
  va_cwS 3 hts gX5_mayTell_X5_in rfl rfl rfl (by decide +kernel) ⟨Nat.le_of_ble_eq_true rfl, Nat.le_of_ble_eq_true rfl⟩
set_option maxHeartbeats 4000000 in
set_option maxRecDepth 100000 in
theorem c_X5_mayTell (l : Launch) (G : va_G) (cI cC cZ : ClassId) (X : List (ClassId × FieldType)) (x0 : Int32) (x1 : Int32) (rv : Int32) (hf : fX5_mayTell x0 x1 = some (rv)) : CT l yX5_mayTell wsX5_mayTell rm_X5_mayTell G (TY cI cC cZ X) [.int x0, .int x1] ([] : va_W) (some (.int rv)) ([] : va_W) := by
  refine CT.of (cc := cX5_mayTell) (maxL := 2) (ret := (some .int)) RX5 rfl (by decide) rfl (Nat.le_of_ble_eq_true rfl) ?_
  intro p e s m args below meth c A ls C hr hlocks hnm h hl
  have hx := C.hx
  have hb := C.hb
  have hl : lv_has ls 2 [(0, .int x0), (1, .int x1)] := hl
  unfold fX5_mayTell at hf
  refine lv_iload_n hx hb dX5_mayTell_0 rfl (lv_at hl 0 rfl) ?_
  refine lv_iconst (v := 0) hx hb dX5_mayTell_1 (by decide) ?_
  refine lv_bipush (v := 15) hx hb dX5_mayTell_2 (by decide) ?_
  obtain ⟨r_1, hq_2, hf⟩ := ob1_use hf
  refine r_callS C h (cw_X5_mayTell_X5_in_40 C.hts) (rest := []) (c_X5_in l G cI cC cZ X x0 (0 : Int32) (15 : Int32) r_1 hq_2) [] rfl rfl rfl rfl hl.1 rfl (Nat.le_of_ble_eq_true rfl) ⟨Nat.le_of_ble_eq_true rfl, Nat.le_of_ble_eq_true rfl⟩ ([] : va_W) rfl rfl dX5_mayTell_4 (fun H locs h => ?_)
  refine lv_if_ne (tgt := 14) hx hb dX5_mayTell_7 (by decide) (fun hc => ?_) (fun hc => ?_)
  · replace hf := it_f hf hc
    refine lv_iload_n hx hb dX5_mayTell_14 rfl (lv_at hl 1 rfl) ?_
    refine lv_iconst (v := 0) hx hb dX5_mayTell_15 (by decide) ?_
    refine lv_sipush (v := 255) hx hb dX5_mayTell_16 (by decide) ?_
    obtain ⟨r_3, hq_4, hf⟩ := ob1_use hf
    refine r_callS C h (cw_X5_mayTell_X5_in_40 C.hts) (rest := []) (c_X5_in l G cI cC cZ X x1 (0 : Int32) (255 : Int32) r_3 hq_4) [] rfl rfl rfl rfl hl.1 rfl (Nat.le_of_ble_eq_true rfl) ⟨Nat.le_of_ble_eq_true rfl, Nat.le_of_ble_eq_true rfl⟩ ([] : va_W) rfl rfl dX5_mayTell_19 (fun H locs h => ?_)
    refine lv_if_eq (tgt := 29) hx hb dX5_mayTell_22 (by decide) (fun hc => ?_) (fun hc => ?_)
    · replace hf := it_t hf hc
      refine lv_bipush (v := (-2)) hx hb dX5_mayTell_29 (by decide) ?_
      cases hf
      exact r_iret C h hr hlocks dX5_mayTell_31
    · replace hf := it_f hf hc
      refine lv_iconst (v := 0) hx hb dX5_mayTell_25 (by decide) ?_
      refine lv_goto (tgt := 31) hx hb dX5_mayTell_26 (by decide) ?_
      cases hf
      exact r_iret C h hr hlocks dX5_mayTell_31
  · replace hf := it_t hf hc
    refine lv_iconst (v := (-1)) hx hb dX5_mayTell_10 (by decide) ?_
    refine lv_goto (tgt := 31) hx hb dX5_mayTell_11 (by decide) ?_
    cases hf
    exact r_iret C h hr hlocks dX5_mayTell_31
def rm_X5_maySlip : Room := { frames := 1, cells := 0, slots := 0, locals := 22 }
set_option maxRecDepth 20000 in
theorem cw_X5_maySlip_X5_in_40 {s : State} {args : Array Value} (hts : ∀ w ∈ wsX5_maySlip, w.before args s = true) : CallB rm_X5_maySlip s args RX5 40 yX5_in cX5_in 3 (some .boolean) wsX5_in rm_X5_in 0 0 3 ∧ (Cond.static yX5_in).before args s = true :=
  va_cwS 3 hts gX5_maySlip_X5_in rfl rfl rfl (by decide +kernel) ⟨Nat.le_of_ble_eq_true rfl, Nat.le_of_ble_eq_true rfl⟩
set_option maxHeartbeats 4000000 in
set_option maxRecDepth 100000 in
theorem c_X5_maySlip (l : Launch) (G : va_G) (cI cC cZ : ClassId) (X : List (ClassId × FieldType)) (x0 : Int32) (x1 : Int32) (rv : Int32) (hf : fX5_maySlip x0 x1 = some (rv)) : CT l yX5_maySlip wsX5_maySlip rm_X5_maySlip G (TY cI cC cZ X) [.int x0, .int x1] ([] : va_W) (some (.int rv)) ([] : va_W) := by
  refine CT.of (cc := cX5_maySlip) (maxL := 2) (ret := (some .int)) RX5 rfl (by decide) rfl (Nat.le_of_ble_eq_true rfl) ?_
  intro p e s m args below meth c A ls C hr hlocks hnm h hl
  have hx := C.hx
  have hb := C.hb
  have hl : lv_has ls 2 [(0, .int x0), (1, .int x1)] := hl
  unfold fX5_maySlip at hf
  refine lv_iload_n hx hb dX5_maySlip_0 rfl (lv_at hl 0 rfl) ?_
  refine lv_iconst (v := 0) hx hb dX5_maySlip_1 (by decide) ?_
  refine lv_iconst (v := 1) hx hb dX5_maySlip_2 (by decide) ?_
  obtain ⟨r_1, hq_2, hf⟩ := ob1_use hf
  refine r_callS C h (cw_X5_maySlip_X5_in_40 C.hts) (rest := []) (c_X5_in l G cI cC cZ X x0 (0 : Int32) (1 : Int32) r_1 hq_2) [] rfl rfl rfl rfl hl.1 rfl (Nat.le_of_ble_eq_true rfl) ⟨Nat.le_of_ble_eq_true rfl, Nat.le_of_ble_eq_true rfl⟩ ([] : va_W) rfl rfl dX5_maySlip_3 (fun H locs h => ?_)
  refine lv_if_eq (tgt := 23) hx hb dX5_maySlip_6 (by decide) (fun hc => ?_) (fun hc => ?_)
  · replace hf := it_t hf hc
    refine lv_bipush (v := (-2)) hx hb dX5_maySlip_23 (by decide) ?_
    cases hf
    exact r_iret C h hr hlocks dX5_maySlip_25
  · replace hf := it_f hf hc
    refine lv_iload_n hx hb dX5_maySlip_9 rfl (lv_at hl 1 rfl) ?_
    refine lv_iconst (v := 1) hx hb dX5_maySlip_10 (by decide) ?_
    refine lv_bipush (v := 99) hx hb dX5_maySlip_11 (by decide) ?_
    obtain ⟨r_3, hq_4, hf⟩ := ob1_use hf
    refine r_callS C h (cw_X5_maySlip_X5_in_40 C.hts) (rest := []) (c_X5_in l G cI cC cZ X x1 (1 : Int32) (99 : Int32) r_3 hq_4) [] rfl rfl rfl rfl hl.1 rfl (Nat.le_of_ble_eq_true rfl) ⟨Nat.le_of_ble_eq_true rfl, Nat.le_of_ble_eq_true rfl⟩ ([] : va_W) rfl rfl dX5_maySlip_13 (fun H locs h => ?_)
    refine lv_if_eq (tgt := 23) hx hb dX5_maySlip_16 (by decide) (fun hc => ?_) (fun hc => ?_)
    · replace hf := it_t hf hc
      refine lv_bipush (v := (-2)) hx hb dX5_maySlip_23 (by decide) ?_
      cases hf
      exact r_iret C h hr hlocks dX5_maySlip_25
    · replace hf := it_f hf hc
      refine lv_iconst (v := 0) hx hb dX5_maySlip_19 (by decide) ?_
      refine lv_goto (tgt := 25) hx hb dX5_maySlip_20 (by decide) ?_
      cases hf
      exact r_iret C h hr hlocks dX5_maySlip_25
def rm_X5_areTicks : Room := { frames := 1, cells := 0, slots := 0, locals := 22 }
set_option maxRecDepth 20000 in
theorem cw_X5_areTicks_X5_in_40 {s : State} {args : Array Value} (hts : ∀ w ∈ wsX5_areTicks, w.before args s = true) : CallB rm_X5_areTicks s args RX5 40 yX5_in cX5_in 3 (some .boolean) wsX5_in rm_X5_in 0 0 3 ∧ (Cond.static yX5_in).before args s = true :=
  va_cwS 3 hts gX5_areTicks_X5_in rfl rfl rfl (by decide +kernel) ⟨Nat.le_of_ble_eq_true rfl, Nat.le_of_ble_eq_true rfl⟩
set_option maxHeartbeats 4000000 in
set_option maxRecDepth 100000 in
theorem c_X5_areTicks (l : Launch) (G : va_G) (cI cC cZ : ClassId) (X : List (ClassId × FieldType)) (x0 : Int32) (rv : Int32) (hf : fX5_areTicks x0 = some (rv)) : CT l yX5_areTicks wsX5_areTicks rm_X5_areTicks G (TY cI cC cZ X) [.int x0] ([] : va_W) (some (.int rv)) ([] : va_W) := by
  refine CT.of (cc := cX5_areTicks) (maxL := 1) (ret := (some .boolean)) RX5 rfl (by decide) rfl (Nat.le_of_ble_eq_true rfl) ?_
  intro p e s m args below meth c A ls C hr hlocks hnm h hl
  have hx := C.hx
  have hb := C.hb
  have hl : lv_has ls 1 [(0, .int x0)] := hl
  unfold fX5_areTicks at hf
  refine lv_iload_n hx hb dX5_areTicks_0 rfl (lv_at hl 0 rfl) ?_
  refine lv_iconst (v := 1) hx hb dX5_areTicks_1 (by decide) ?_
  refine lv_sipush (v := 999) hx hb dX5_areTicks_2 (by decide) ?_
  obtain ⟨r_1, hq_2, hf⟩ := ob1_use hf
  refine r_callS C h (cw_X5_areTicks_X5_in_40 C.hts) (rest := []) (c_X5_in l G cI cC cZ X x0 (1 : Int32) (999 : Int32) r_1 hq_2) [] rfl rfl rfl rfl hl.1 rfl (Nat.le_of_ble_eq_true rfl) ⟨Nat.le_of_ble_eq_true rfl, Nat.le_of_ble_eq_true rfl⟩ ([] : va_W) rfl rfl dX5_areTicks_5 (fun H locs h => ?_)
  obtain ⟨hz, hf⟩ := nd_use hf
  cases hf
  exact r_zret C h hr hlocks (by rcases hz with hz | hz <;> rw [hz] <;> rfl) dX5_areTicks_8
def rm_X5_byteOf : Room := { frames := 0, cells := 0, slots := 0, locals := 0 }
set_option maxRecDepth 20000 in
theorem kc_X5_byteOf_137 : Cond.constantLong RX5 137 (255) ∈ wsX5_byteOf := List.mem_of_getElem? (i := 1) (by decide +kernel)
set_option maxHeartbeats 4000000 in
set_option maxRecDepth 100000 in
theorem c_X5_byteOf (l : Launch) (G : va_G) (cI cC cZ : ClassId) (X : List (ClassId × FieldType)) (x0 : Int64) (x2 : Int32) (rv : Int32) (hf : fX5_byteOf x0 x2 = some (rv)) : CT l yX5_byteOf wsX5_byteOf rm_X5_byteOf G (TY cI cC cZ X) [.long x0, .int x2] ([] : va_W) (some (.int rv)) ([] : va_W) := by
  refine CT.of (cc := cX5_byteOf) (maxL := 3) (ret := (some .int)) RX5 rfl (by decide) rfl (Nat.le_of_ble_eq_true rfl) ?_
  intro p e s m args below meth c A ls C hr hlocks hnm h hl
  have hx := C.hx
  have hb := C.hb
  have hl : lv_has ls 3 [(0, .long x0), (2, .int x2)] := hl
  unfold fX5_byteOf at hf
  refine lv_lload_n hx hb dX5_byteOf_0 rfl (lv_at hl 0 rfl) ?_
  refine lv_bipush (v := 8) hx hb dX5_byteOf_1 (by decide) ?_
  refine lv_iload_n hx hb dX5_byteOf_3 rfl (lv_at hl 1 rfl) ?_
  refine lv_imul hx hb dX5_byteOf_4 ?_
  refine lv_lshr hx hb dX5_byteOf_5 rfl ?_
  refine lv_ldc2 hx hb C.hown (C.hts _ kc_X5_byteOf_137) dX5_byteOf_6 ?_
  refine lv_land hx hb dX5_byteOf_9 ?_
  refine lv_l2i hx hb dX5_byteOf_10 rfl ?_
  cases hf
  exact r_iret C h hr hlocks dX5_byteOf_11
def rm_X5_toldBy : Room := { frames := 1, cells := 0, slots := 0, locals := 22 }
set_option maxRecDepth 20000 in
theorem cw_X5_toldBy_X5_byteOf_139 {s : State} {args : Array Value} (hts : ∀ w ∈ wsX5_toldBy, w.before args s = true) : CallB rm_X5_toldBy s args RX5 139 yX5_byteOf cX5_byteOf 3 (some .int) wsX5_byteOf rm_X5_byteOf 0 0 2 ∧ (Cond.static yX5_byteOf).before args s = true :=
  va_cwS 2 hts gX5_toldBy_X5_byteOf rfl rfl rfl (by decide +kernel) ⟨Nat.le_of_ble_eq_true rfl, Nat.le_of_ble_eq_true rfl⟩
set_option maxRecDepth 20000 in
theorem cw_X5_toldBy_X5_in_40 {s : State} {args : Array Value} (hts : ∀ w ∈ wsX5_toldBy, w.before args s = true) : CallB rm_X5_toldBy s args RX5 40 yX5_in cX5_in 3 (some .boolean) wsX5_in rm_X5_in 0 0 3 ∧ (Cond.static yX5_in).before args s = true :=
  va_cwS 3 hts gX5_toldBy_X5_in rfl rfl rfl (by decide +kernel) ⟨Nat.le_of_ble_eq_true rfl, Nat.le_of_ble_eq_true rfl⟩
set_option maxHeartbeats 4000000 in
set_option maxRecDepth 100000 in
theorem c_X5_toldBy (l : Launch) (G : va_G) (cI cC cZ : ClassId) (X : List (ClassId × FieldType)) (x0 : Int64) (rv : Int32) (hf : fX5_toldBy x0 = some (rv)) : CT l yX5_toldBy wsX5_toldBy rm_X5_toldBy G (TY cI cC cZ X) [.long x0] ([] : va_W) (some (.int rv)) ([] : va_W) := by
  refine CT.of (cc := cX5_toldBy) (maxL := 4) (ret := (some .int)) RX5 rfl (by decide) rfl (Nat.le_of_ble_eq_true rfl) ?_
  intro p e s m args below meth c A ls C hr hlocks hnm h hl
  have hx := C.hx
  have hb := C.hb
  have hl : lv_has ls 4 [(0, .long x0)] := hl
  have cut_42 : ∀ (n : Nat) (x0 : Int64) (x2 : Int32) (x3 : Int32) (H : Heap) (locs : List Loc) (ls : Array Slot), Hx s G A ([] : va_W) H locs → lv_has ls 4 [(0, .long x0), (2, .int x2), (3, .int x3)] → fX5_toldBy_42 n x0 x2 x3 = some (rv) → W p l e rm_X5_toldBy s m args below meth c H locs 0 0 (MQ below (Qx G (some (.int rv)) ([] : va_W) A) args s 0 0 A) (F0 m 42 ls []) := by
    intro n
    induction n with
    | zero =>
      intro x0 x2 x3 H locs ls h hl hf
      exact (nn_some _ hf).elim
    | succ n ih =>
      intro x0 x2 x3 H locs ls h hl hf
      have hf : fX5_toldBy_42_b (fX5_toldBy_42 n) x0 x2 x3 = some (rv) := hf
      unfold fX5_toldBy_42_b at hf
      refine lv_iload_n hx hb dX5_toldBy_42 rfl (lv_at hl 2 rfl) ?_
      refine lv_bipush (v := 8) hx hb dX5_toldBy_43 (by decide) ?_
      refine lv_icmp_ge (tgt := 65) hx hb dX5_toldBy_45 (by decide) (fun hc => ?_) (fun hc => ?_)
      · replace hf := it_t hf hc
        refine lv_iload_n hx hb dX5_toldBy_65 rfl (lv_at hl 1 rfl) ?_
        refine lv_if_ne (tgt := 74) hx hb dX5_toldBy_66 (by decide) (fun hc => ?_) (fun hc => ?_)
        · replace hf := it_f hf hc
          refine lv_iload_n hx hb dX5_toldBy_74 rfl (lv_at hl 1 rfl) ?_
          cases hf
          exact r_iret C h hr hlocks dX5_toldBy_75
        · replace hf := it_t hf hc
          refine lv_bipush (v := (-2)) hx hb dX5_toldBy_69 (by decide) ?_
          refine lv_goto (tgt := 75) hx hb dX5_toldBy_71 (by decide) ?_
          cases hf
          exact r_iret C h hr hlocks dX5_toldBy_75
      · replace hf := it_f hf hc
        refine lv_lload_n hx hb dX5_toldBy_48 rfl (lv_at hl 0 rfl) ?_
        refine lv_iload_n hx hb dX5_toldBy_49 rfl (lv_at hl 2 rfl) ?_
        obtain ⟨r_1, hq_2, hf⟩ := ob1_use hf
        refine r_callS C h (cw_X5_toldBy_X5_byteOf_139 C.hts) (rest := []) (c_X5_byteOf l G cI cC cZ X x0 x3 r_1 hq_2) [] rfl rfl rfl rfl hl.1 rfl (Nat.le_of_ble_eq_true rfl) ⟨Nat.le_of_ble_eq_true rfl, Nat.le_of_ble_eq_true rfl⟩ ([] : va_W) rfl rfl dX5_toldBy_50 (fun H locs h => ?_)
        refine lv_if_eq (tgt := 59) hx hb dX5_toldBy_53 (by decide) (fun hc => ?_) (fun hc => ?_)
        · replace hf := it_t hf hc
          obtain ⟨x3_3, ex3_3⟩ : ∃ y : Int32, y = x3 + 1 := ⟨_, rfl⟩
          replace hf := nm_use hf ex3_3
          refine lv_iinc (v := x3_3) (lv' := [(3, .int x3_3), (0, .long x0), (2, .int x2)]) hx hb dX5_toldBy_59 hl (k := 2) rfl (by rw [ex3_3]; rfl) (by decide) rfl (fun ls hl => ?_)
          refine lv_goto (tgt := 42) hx hb dX5_toldBy_62 (by decide) ?_
          exact ih x0 x2 x3_3 _ _ _ h (lv_sub hl [1, 2, 0] rfl) hf
        · replace hf := it_f hf hc
          refine lv_bipush (v := (-2)) hx hb dX5_toldBy_56 (by decide) ?_
          cases hf
          exact r_iret C h hr hlocks dX5_toldBy_58
  have cut_2 : ∀ (n : Nat) (x0 : Int64) (x2 : Int32) (H : Heap) (locs : List Loc) (ls : Array Slot), Hx s G A ([] : va_W) H locs → lv_has ls 4 [(0, .long x0), (2, .int x2)] → fX5_toldBy_2 n x0 x2 = some (rv) → W p l e rm_X5_toldBy s m args below meth c H locs 0 0 (MQ below (Qx G (some (.int rv)) ([] : va_W) A) args s 0 0 A) (F0 m 2 ls []) := by
    intro n
    induction n with
    | zero =>
      intro x0 x2 H locs ls h hl hf
      exact (nn_some _ hf).elim
    | succ n ih =>
      intro x0 x2 H locs ls h hl hf
      have hf : fX5_toldBy_2_b (fX5_toldBy_2 n) x0 x2 = some (rv) := hf
      unfold fX5_toldBy_2_b at hf
      refine lv_iload_n hx hb dX5_toldBy_2 rfl (lv_at hl 1 rfl) ?_
      refine lv_bipush (v := 8) hx hb dX5_toldBy_3 (by decide) ?_
      refine lv_icmp_ge (tgt := 40) hx hb dX5_toldBy_5 (by decide) (fun hc => ?_) (fun hc => ?_)
      · replace hf := it_t hf hc
        refine lv_iload_n hx hb dX5_toldBy_40 rfl (lv_at hl 1 rfl) ?_
        refine lv_istore_n (lv' := [(3, .int x2), (0, .long x0), (2, .int x2)]) hx hb dX5_toldBy_41 rfl hl (by decide) rfl (fun ls hl => ?_)
        exact cut_42 KF x0 x2 x2 _ _ _ h (lv_sub hl [1, 2, 0] rfl) hf
      · replace hf := it_f hf hc
        refine lv_lload_n hx hb dX5_toldBy_8 rfl (lv_at hl 0 rfl) ?_
        refine lv_iload_n hx hb dX5_toldBy_9 rfl (lv_at hl 1 rfl) ?_
        obtain ⟨r_1, hq_2, hf⟩ := ob1_use hf
        refine r_callS C h (cw_X5_toldBy_X5_byteOf_139 C.hts) (rest := []) (c_X5_byteOf l G cI cC cZ X x0 x2 r_1 hq_2) [] rfl rfl rfl rfl hl.1 rfl (Nat.le_of_ble_eq_true rfl) ⟨Nat.le_of_ble_eq_true rfl, Nat.le_of_ble_eq_true rfl⟩ ([] : va_W) rfl rfl dX5_toldBy_10 (fun H locs h => ?_)
        refine lv_if_eq (tgt := 40) hx hb dX5_toldBy_13 (by decide) (fun hc => ?_) (fun hc => ?_)
        · replace hf := it_t hf hc
          refine lv_iload_n hx hb dX5_toldBy_40 rfl (lv_at hl 1 rfl) ?_
          refine lv_istore_n (lv' := [(3, .int x2), (0, .long x0), (2, .int x2)]) hx hb dX5_toldBy_41 rfl hl (by decide) rfl (fun ls hl => ?_)
          exact cut_42 KF x0 x2 x2 _ _ _ h (lv_sub hl [1, 2, 0] rfl) hf
        · replace hf := it_f hf hc
          refine lv_lload_n hx hb dX5_toldBy_16 rfl (lv_at hl 0 rfl) ?_
          refine lv_iload_n hx hb dX5_toldBy_17 rfl (lv_at hl 1 rfl) ?_
          obtain ⟨r_3, hq_4, hf⟩ := ob1_use hf
          refine r_callS C h (cw_X5_toldBy_X5_byteOf_139 C.hts) (rest := []) (c_X5_byteOf l G cI cC cZ X x0 x2 r_3 hq_4) [] rfl rfl rfl rfl hl.1 rfl (Nat.le_of_ble_eq_true rfl) ⟨Nat.le_of_ble_eq_true rfl, Nat.le_of_ble_eq_true rfl⟩ ([] : va_W) rfl rfl dX5_toldBy_18 (fun H locs h => ?_)
          refine lv_bipush (v := 33) hx hb dX5_toldBy_21 (by decide) ?_
          refine lv_bipush (v := 126) hx hb dX5_toldBy_23 (by decide) ?_
          obtain ⟨r_5, hq_6, hf⟩ := ob1_use hf
          refine r_callS C h (cw_X5_toldBy_X5_in_40 C.hts) (rest := []) (c_X5_in l G cI cC cZ X r_3 (33 : Int32) (126 : Int32) r_5 hq_6) [] rfl rfl rfl rfl hl.1 rfl (Nat.le_of_ble_eq_true rfl) ⟨Nat.le_of_ble_eq_true rfl, Nat.le_of_ble_eq_true rfl⟩ ([] : va_W) rfl rfl dX5_toldBy_25 (fun H locs h => ?_)
          refine lv_if_ne (tgt := 34) hx hb dX5_toldBy_28 (by decide) (fun hc => ?_) (fun hc => ?_)
          · replace hf := it_f hf hc
            obtain ⟨x2_7, ex2_7⟩ : ∃ y : Int32, y = x2 + 1 := ⟨_, rfl⟩
            replace hf := nm_use hf ex2_7
            refine lv_iinc (v := x2_7) (lv' := [(2, .int x2_7), (0, .long x0)]) hx hb dX5_toldBy_34 hl (k := 1) rfl (by rw [ex2_7]; rfl) (by decide) rfl (fun ls hl => ?_)
            refine lv_goto (tgt := 2) hx hb dX5_toldBy_37 (by decide) ?_
            exact ih x0 x2_7 _ _ _ h (lv_sub hl [1, 0] rfl) hf
          · replace hf := it_t hf hc
            refine lv_bipush (v := (-2)) hx hb dX5_toldBy_31 (by decide) ?_
            cases hf
            exact r_iret C h hr hlocks dX5_toldBy_33
  unfold fX5_toldBy at hf
  refine lv_iconst (v := 0) hx hb dX5_toldBy_0 (by decide) ?_
  refine lv_istore_n (lv' := [(2, .int 0), (0, .long x0)]) hx hb dX5_toldBy_1 rfl hl (by decide) rfl (fun ls hl => ?_)
  exact cut_2 KF x0 0 _ _ _ h (lv_sub hl [1, 0] rfl) hf
