/-! ===== doubles: halves, doubles, and their bits ===== -/
def VD (x : UInt64) (c : Nat) (q : Int) : Prop := FP.Core.val64 x = .fin false c q ∧ 4503599627370496 ≤ c ∧ c < 9007199254740992 ∧ -1000 ≤ q ∧ q ≤ 900
theorem fitsD {c : Nat} {q : Int} (h1 : 4503599627370496 ≤ c) (h2 : c < 9007199254740992) (h3 : -1000 ≤ q) (h4 : q ≤ 900) : FP.Core.fits FP.Core.b64 (.fin false c q) := by
  refine ⟨h2, ?_, ?_, Or.inr h1⟩
  · show (-1074 : Int) ≤ q
    omega
  · show q ≤ (971 : Int)
    omega
theorem two_v : FP.Core.val64 4611686018427387904 = .fin false 4503599627370496 (-51) := by decide +kernel
theorem one_v : FP.Core.val64 4607182418800017408 = .fin false 4503599627370496 (-52) := by decide +kernel
theorem VD.half {x : UInt64} {c : Nat} {q : Int} (h : VD x c q) (hq : -999 ≤ q) : VD (FP.ddiv x 4611686018427387904) c (q - 1) := by
  obtain ⟨h0, h1, h2, h3, h4⟩ := h
  refine ⟨?_, h1, h2, by omega, by omega⟩
  rw [FP.Core.val64_ddiv, h0, two_v]
  show (if (4503599627370496 : Nat) = 0 then (if c = 0 then FP.Core.Datum.nan else .inf (false != false)) else FP.Core.roundRatio FP.Core.b64 (false != false) c 4503599627370496 (q - -51)) = _
  rw [if_neg (by omega)]
  refine FP.Core.roundRatio_exact FP.Core.good_b64 (by omega) (fitsD h1 h2 (by omega) (by omega)) ?_
  rw [show (q - -51 - (q - 1)).toNat = 52 by omega, show (q - 1 - (q - -51)).toNat = 0 by omega]
  omega
theorem VD.dbl {x : UInt64} {c : Nat} {q : Int} (h : VD x c q) (hq : q ≤ 899) : VD (FP.dmul x 4611686018427387904) c (q + 1) := by
  obtain ⟨h0, h1, h2, h3, h4⟩ := h
  refine ⟨?_, h1, h2, by omega, by omega⟩
  rw [FP.Core.val64_dmul, h0, two_v]
  show FP.Core.roundRatio FP.Core.b64 (false != false) (c * 4503599627370496) 1 (q + -51) = _
  refine FP.Core.roundRatio_exact FP.Core.good_b64 (by omega) (fitsD h1 h2 (by omega) (by omega)) ?_
  rw [show (q + -51 - (q + 1)).toNat = 0 by omega, show (q + 1 - (q + -51)).toNat = 52 by omega]
  omega
theorem dcmp_v {x y : UInt64} {c d : Nat} {q r : Int} (hx : FP.Core.val64 x = .fin false c q) (hy : FP.Core.val64 y = .fin false d r) : FP.dcmp x y = some (if ((c * 2 ^ (q - min q r).toNat : Nat) : Int) < ((d * 2 ^ (r - min q r).toNat : Nat) : Int) then .lt else if ((c * 2 ^ (q - min q r).toNat : Nat) : Int) = ((d * 2 ^ (r - min q r).toNat : Nat) : Int) then .eq else .gt) := by
  show FP.Core.order (FP.Core.val64 x) (FP.Core.val64 y) = _
  rw [hx, hy]
  rfl
theorem pow_big {k : Nat} (hk : 1 ≤ k) : 2 ≤ 2 ^ k := by
  calc 2 = 2 ^ 1 := rfl
    _ ≤ 2 ^ k := Nat.pow_le_pow_right (by omega) hk
theorem VD.lt2 {x : UInt64} {c : Nat} {q : Int} (h : VD x c q) : (Op.cmpValue (FP.dcmp x 4611686018427387904) CmpOp.l) < 0 ↔ q < -51 := by
  obtain ⟨h0, h1, h2, h3, h4⟩ := h
  rw [dcmp_v h0 two_v]
  by_cases g : q < -51
  · have e1 : (q - min q (-51)).toNat = 0 := by omega
    obtain ⟨k, hk⟩ : ∃ k, (-51 - min q (-51)).toNat = k ∧ 1 ≤ k := ⟨_, rfl, by omega⟩
    have hp := pow_big hk.2
    rw [e1, hk.1, if_pos (by
      have := Nat.mul_le_mul_left 4503599627370496 hp
      omega)]
    exact ⟨fun _ => g, fun _ => by decide⟩
  · have e1 : (-51 - min q (-51)).toNat = 0 := by omega
    have hp : 1 ≤ 2 ^ (q - min q (-51)).toNat := Nat.one_le_two_pow
    have := Nat.mul_le_mul_left c hp
    rw [e1, if_neg (by omega)]
    refine ⟨fun h => ?_, fun h => absurd h g⟩
    split at h
    · exact absurd h (by decide)
    · exact absurd h (by decide)
theorem VD.ge1 {x : UInt64} {c : Nat} {q : Int} (h : VD x c q) : 0 ≤ (Op.cmpValue (FP.dcmp x 4607182418800017408) CmpOp.g) ↔ -52 ≤ q := by
  obtain ⟨h0, h1, h2, h3, h4⟩ := h
  rw [dcmp_v h0 one_v]
  by_cases g : q < -52
  · have e1 : (q - min q (-52)).toNat = 0 := by omega
    obtain ⟨k, hk⟩ : ∃ k, (-52 - min q (-52)).toNat = k ∧ 1 ≤ k := ⟨_, rfl, by omega⟩
    have hp := pow_big hk.2
    rw [e1, hk.1, if_pos (by
      have := Nat.mul_le_mul_left 4503599627370496 hp
      omega)]
    exact ⟨fun h => absurd h (by decide), fun _ => by omega⟩
  · have e1 : (-52 - min q (-52)).toNat = 0 := by omega
    have hp : 1 ≤ 2 ^ (q - min q (-52)).toNat := Nat.one_le_two_pow
    have := Nat.mul_le_mul_left c hp
    rw [e1, if_neg (by omega)]
    refine ⟨fun _ => by omega, fun _ => ?_⟩
    split
    · decide
    · decide
theorem zero_v : FP.Core.val64 0 = .fin false 0 (-1074) := by decide +kernel
theorem VD.pos {x : UInt64} {c : Nat} {q : Int} (h : VD x c q) : 0 < (Op.cmpValue (FP.dcmp x 0) CmpOp.l) := by
  obtain ⟨h0, h1, h2, h3, h4⟩ := h
  rw [dcmp_v h0 zero_v]
  have hp : 1 ≤ 2 ^ (q - min q (-1074)).toNat := Nat.one_le_two_pow
  have := Nat.mul_le_mul_left c hp
  rw [Nat.zero_mul, if_neg (by omega), if_neg (by omega)]
  decide
/-- no NaN: the condition that the mirrors carry -/
theorem enc_lt {c : Nat} {q : Int} (h : FP.Core.fits FP.Core.b64 (.fin false c q)) : FP.Core.encode FP.Core.b64 (.fin false c q) < 9218868437227405312 := by
  obtain ⟨h1, h2, h3, h4⟩ := h
  have h1 : c < 9007199254740992 := h1
  have h2 : (-1074 : Int) ≤ q := h2
  have h3 : q ≤ (971 : Int) := h3
  show (if c < 4503599627370496 then (0 * 2048 + 0) * 4503599627370496 + c else (0 * 2048 + ((q - -1074).toNat + 1)) * 4503599627370496 + (c - 4503599627370496)) < _
  have : (q - -1074).toNat ≤ 2045 := by omega
  split <;> omega
theorem bits_of {x : UInt64} {c : Nat} {q : Int} (h : FP.Core.val64 x = .fin false c q) : x.toNat = FP.Core.encode FP.Core.b64 (.fin false c q) := by
  have h2 := FP.Core.of64_val64 (a := x) (by rw [h]; intro e; cases e)
  rw [h] at h2
  have h3 := enc_lt (by rw [← h]; exact FP.Core.val64_fits x)
  rw [← h2]
  show (UInt64.ofNat (FP.Core.encode FP.Core.b64 (.fin false c q))).toNat = _
  rw [UInt64.toNat_ofNat']
  exact Nat.mod_eq_of_lt (by omega)
theorem nan_no {x : UInt64} {c : Nat} {q : Int} (h : FP.Core.val64 x = .fin false c q) : x &&& 0x7fffffffffffffff ≤ 0x7ff0000000000000 := by
  have h3 := enc_lt (by rw [← h]; exact FP.Core.val64_fits x)
  rw [← bits_of h] at h3
  rw [UInt64.le_iff_toNat_le, UInt64.toNat_and]
  have h4 : x.toNat &&& (0x7fffffffffffffff : UInt64).toNat = x.toNat % 2 ^ 63 := Nat.and_two_pow_sub_one_eq_mod x.toNat 63
  rw [h4]
  show x.toNat % 2 ^ 63 ≤ 9218868437227405312
  omega
