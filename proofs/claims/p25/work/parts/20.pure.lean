/-! ===== pure rows: the mirrors over natural numbers ===== -/
def fI (z : Nat → Nat) : Nat → Int32 := fun k => nI (z k)
def uN (z : Nat → Nat) (k x : Nat) : Nat → Nat := fun j => if j = k then x else z j
theorem fI_ap (z : Nat → Nat) (k : Nat) : fI z k = nI (z k) := congrFun (show fI z = (fun k => nI (z k)) from rfl) k
theorem upd_fI (z : Nat → Nat) (k x : Nat) : upd (fI z) k (nI x) = fI (uN z k x) := by
  funext j
  unfold upd fI uN
  split <;> rfl
theorem uN_s {z : Nat → Nat} {k x : Nat} : uN z k x k = x := by simp [uN]
theorem uN_n {z : Nat → Nat} {k x j : Nat} (h : j ≠ k) : uN z k x j = z j := by simp [uN, h]
theorem nm_ev {α β : Type} (e : α) (k : α → β) : nm e k = k e := rfl
theorem ob0_ev {α γ : Type} (a : α) (k : Option γ) : ob0 (some a) k = k := rfl
theorem ob1_ev {α γ : Type} (a : α) (k : α → Option γ) : ob1 (some a) k = k a := rfl
theorem ob2_ev {α β γ : Type} (a : α) (b : β) (k : α → β → Option γ) : ob2 (some (a, b)) k = k a b := rfl
theorem ob3_ev {α β δ γ : Type} (a : α) (b : β) (d : δ) (k : α → β → δ → Option γ) : ob3 (some (a, b, d)) k = k a b d := rfl
theorem ob4_ev {α β δ ε γ : Type} (a : α) (b : β) (d : δ) (e : ε) (k : α → β → δ → ε → Option γ) : ob4 (some (a, b, d, e)) k = k a b d e := rfl
theorem ob5_ev {α β δ ε ζ γ : Type} (a : α) (b : β) (d : δ) (e : ε) (f : ζ) (k : α → β → δ → ε → ζ → Option γ) : ob5 (some (a, b, d, e, f)) k = k a b d e f := rfl
theorem ob6_ev {α β δ ε ζ η γ : Type} (a : α) (b : β) (d : δ) (e : ε) (f : ζ) (g : η) (k : α → β → δ → ε → ζ → η → Option γ) : ob6 (some (a, b, d, e, f, g)) k = k a b d e f g := rfl
theorem ob7_ev {α β δ ε ζ η θ γ : Type} (a : α) (b : β) (d : δ) (e : ε) (f : ζ) (g : η) (h : θ) (k : α → β → δ → ε → ζ → η → θ → Option γ) : ob7 (some (a, b, d, e, f, g, h)) k = k a b d e f g h := rfl
theorem chk_nI {α : Type} {j n : Nat} {k : Nat → Option α} (h : j < n) (hn : n < 2147483648) : chk (nI j) n k = k j := by
  unfold chk
  rw [if_neg (nI_in h (by omega)), nI_clamp (by omega)]
theorem nd_ev {α : Type} {c : Prop} [Decidable c] {k : Option α} (h : c) : nd c k = k := by unfold nd; rw [if_pos h]
theorem nI_eq32 {a b : Nat} (ha : a < 4294967296) (hb : b < 4294967296) : nI a = nI b ↔ a = b := by
  constructor
  · intro h
    have h2 : (nI a).toBitVec.toNat = (nI b).toBitVec.toNat := by rw [h]
    rw [pk_tn (by omega), pk_tn (by omega)] at h2
    exact h2
  · intro h; rw [h]
theorem nI_le31 {a b : Nat} (ha : a < 2147483648) (hb : b < 2147483648) : nI a ≤ nI b ↔ a ≤ b := nI_leI (by omega) (by omega)
theorem nI_lt31 {a b : Nat} (ha : a < 2147483648) (hb : b < 2147483648) : nI a < nI b ↔ a < b := nI_ltI (by omega) (by omega)
theorem nI_sub {a b : Nat} (h : b ≤ a) : nI a - nI b = nI (a - b) := pk_sub h
theorem nI_div {a d : Nat} (ha : a < 2147483648) (h0 : 0 < d) (hd : d < 2147483648) : nI a / nI d = nI (a / d) := pk_div (by omega) h0 (by omega)
theorem nI_rem {a d : Nat} (ha : a < 2147483648) (h0 : 0 < d) (hd : d < 2147483648) : nI a - nI a / nI d * nI d = nI (a % d) := pk_rem (by omega) h0 (by omega)
theorem li_0 : (0 : Int32) = nI 0 := by decide
theorem li_1 : (1 : Int32) = nI 1 := by decide
theorem li_2 : (2 : Int32) = nI 2 := by decide
theorem li_3 : (3 : Int32) = nI 3 := by decide
theorem li_4 : (4 : Int32) = nI 4 := by decide
theorem li_5 : (5 : Int32) = nI 5 := by decide
theorem li_6 : (6 : Int32) = nI 6 := by decide
theorem li_7 : (7 : Int32) = nI 7 := by decide
theorem li_8 : (8 : Int32) = nI 8 := by decide
theorem li_9 : (9 : Int32) = nI 9 := by decide
theorem li_10 : (10 : Int32) = nI 10 := by decide
theorem li_11 : (11 : Int32) = nI 11 := by decide
theorem li_12 : (12 : Int32) = nI 12 := by decide
theorem li_13 : (13 : Int32) = nI 13 := by decide
theorem li_14 : (14 : Int32) = nI 14 := by decide
theorem li_15 : (15 : Int32) = nI 15 := by decide
theorem li_16 : (16 : Int32) = nI 16 := by decide
theorem li_17 : (17 : Int32) = nI 17 := by decide
theorem li_18 : (18 : Int32) = nI 18 := by decide
theorem li_19 : (19 : Int32) = nI 19 := by decide
theorem li_20 : (20 : Int32) = nI 20 := by decide
theorem li_21 : (21 : Int32) = nI 21 := by decide
theorem li_22 : (22 : Int32) = nI 22 := by decide
theorem li_23 : (23 : Int32) = nI 23 := by decide
theorem li_24 : (24 : Int32) = nI 24 := by decide
theorem li_25 : (25 : Int32) = nI 25 := by decide
theorem li_26 : (26 : Int32) = nI 26 := by decide
theorem li_27 : (27 : Int32) = nI 27 := by decide
theorem li_28 : (28 : Int32) = nI 28 := by decide
theorem li_29 : (29 : Int32) = nI 29 := by decide
theorem li_30 : (30 : Int32) = nI 30 := by decide
theorem li_31 : (31 : Int32) = nI 31 := by decide
theorem li_32 : (32 : Int32) = nI 32 := by decide
theorem li_33 : (33 : Int32) = nI 33 := by decide
theorem li_34 : (34 : Int32) = nI 34 := by decide
theorem li_35 : (35 : Int32) = nI 35 := by decide
theorem li_36 : (36 : Int32) = nI 36 := by decide
theorem li_37 : (37 : Int32) = nI 37 := by decide
theorem li_38 : (38 : Int32) = nI 38 := by decide
theorem li_39 : (39 : Int32) = nI 39 := by decide
theorem li_40 : (40 : Int32) = nI 40 := by decide
theorem li_41 : (41 : Int32) = nI 41 := by decide
theorem li_42 : (42 : Int32) = nI 42 := by decide
theorem li_46 : (46 : Int32) = nI 46 := by decide
theorem li_48 : (48 : Int32) = nI 48 := by decide
theorem li_57 : (57 : Int32) = nI 57 := by decide
theorem li_58 : (58 : Int32) = nI 58 := by decide
theorem li_59 : (59 : Int32) = nI 59 := by decide
theorem li_60 : (60 : Int32) = nI 60 := by decide
theorem li_61 : (61 : Int32) = nI 61 := by decide
theorem li_62 : (62 : Int32) = nI 62 := by decide
theorem li_68 : (68 : Int32) = nI 68 := by decide
theorem li_80 : (80 : Int32) = nI 80 := by decide
theorem li_96 : (96 : Int32) = nI 96 := by decide
theorem li_99 : (99 : Int32) = nI 99 := by decide
theorem li_100 : (100 : Int32) = nI 100 := by decide
theorem li_105 : (105 : Int32) = nI 105 := by decide
theorem li_106 : (106 : Int32) = nI 106 := by decide
theorem li_107 : (107 : Int32) = nI 107 := by decide
theorem li_108 : (108 : Int32) = nI 108 := by decide
theorem li_111 : (111 : Int32) = nI 111 := by decide
theorem li_116 : (116 : Int32) = nI 116 := by decide
theorem li_118 : (118 : Int32) = nI 118 := by decide
theorem li_123 : (123 : Int32) = nI 123 := by decide
theorem li_126 : (126 : Int32) = nI 126 := by decide
theorem li_127 : (127 : Int32) = nI 127 := by decide
theorem li_202 : (202 : Int32) = nI 202 := by decide
theorem li_203 : (203 : Int32) = nI 203 := by decide
theorem li_204 : (204 : Int32) = nI 204 := by decide
theorem li_205 : (205 : Int32) = nI 205 := by decide
theorem li_206 : (206 : Int32) = nI 206 := by decide
theorem li_233 : (233 : Int32) = nI 233 := by decide
theorem li_234 : (234 : Int32) = nI 234 := by decide
theorem li_255 : (255 : Int32) = nI 255 := by decide
theorem li_256 : (256 : Int32) = nI 256 := by decide
theorem li_468 : (468 : Int32) = nI 468 := by decide
theorem li_512 : (512 : Int32) = nI 512 := by decide
theorem li_999 : (999 : Int32) = nI 999 := by decide
theorem li_1023 : (1023 : Int32) = nI 1023 := by decide
theorem li_1170 : (1170 : Int32) = nI 1170 := by decide
theorem li_1404 : (1404 : Int32) = nI 1404 := by decide
theorem li_99999 : (99999 : Int32) = nI 99999 := by decide
theorem li_1073741824 : (1073741824 : Int32) = nI 1073741824 := by decide
theorem lm_1 : -nI 1 = nI 4294967295 := by decide
theorem ln_1 : (-1 : Int32) = nI 4294967295 := by decide
theorem lm_2 : -nI 2 = nI 4294967294 := by decide
theorem ln_2 : (-2 : Int32) = nI 4294967294 := by decide
theorem lm_3 : -nI 3 = nI 4294967293 := by decide
theorem ln_3 : (-3 : Int32) = nI 4294967293 := by decide
theorem lm_4 : -nI 4 = nI 4294967292 := by decide
theorem ln_4 : (-4 : Int32) = nI 4294967292 := by decide
theorem lm_5 : -nI 5 = nI 4294967291 := by decide
theorem ln_5 : (-5 : Int32) = nI 4294967291 := by decide
theorem lm_6 : -nI 6 = nI 4294967290 := by decide
theorem ln_6 : (-6 : Int32) = nI 4294967290 := by decide
