/-! ===== the digits behind the point ===== -/
theorem canon (m : Nat) (h0 : 0 < m) (h1 : m < 4503599627370496) : ∃ k, 1 ≤ k ∧ k ≤ 52 ∧ 4503599627370496 ≤ m * 2 ^ k ∧ m * 2 ^ k < 9007199254740992 := by
  have a := Nat.log2_self_le (n := m) (by omega)
  have b := Nat.lt_log2_self (n := m)
  have hl : m.log2 < 52 := by
    apply Classical.byContradiction
    intro g
    have := Nat.pow_le_pow_right (n := 2) (by omega) (show 52 ≤ m.log2 by omega)
    omega
  refine ⟨52 - m.log2, by omega, by omega, ?_, ?_⟩
  · have := Nat.mul_le_mul_right (2 ^ (52 - m.log2)) a
    rw [← Nat.pow_add, show m.log2 + (52 - m.log2) = 52 by omega] at this
    exact this
  · have := Nat.mul_lt_mul_of_pos_right b (show 0 < 2 ^ (52 - m.log2) from Nat.two_pow_pos _)
    rw [← Nat.pow_add, show m.log2 + 1 + (52 - m.log2) = 53 by omega] at this
    exact this
/-- a magnitude that has so few digits is rounded to itself -/
theorem round_m (m : Nat) (q : Int) (h0 : 0 < m) (h1 : m < 4503599627370496) (h2 : -900 ≤ q) (h3 : q ≤ 900) : ∃ k : Nat, 1 ≤ k ∧ k ≤ 52 ∧ 4503599627370496 ≤ m * 2 ^ k ∧ m * 2 ^ k < 9007199254740992 ∧ FP.Core.roundRatio FP.Core.b64 false m 1 q = .fin false (m * 2 ^ k) (q - k) := by
  obtain ⟨k, k1, k2, k3, k4⟩ := canon m h0 h1
  refine ⟨k, k1, k2, k3, k4, FP.Core.roundRatio_exact FP.Core.good_b64 (by omega) (fitsD k3 k4 (by omega) (by omega)) ?_⟩
  rw [show (q - (q - (k : Int))).toNat = k by omega, show (q - (k : Int) - q).toNat = 0 by omega]
  omega
theorem frac_0 (x p : UInt64) (b : Int) (h : FP.Core.val64 x = .fin false 4503599627370496 (-52)) (hp : FP.Core.val64 p = .fin false 4503599627370496 b) : FP.Core.val64 (FP.dsub x 4607182418800017408) = .fin false 0 (-1074) ∧ FP.Core.val64 (FP.dmul (FP.dsub x 4607182418800017408) p) = .fin false 0 (-1074) := by
  have e : FP.Core.val64 (FP.dsub x 4607182418800017408) = .fin false 0 (-1074) := by
    rw [FP.Core.val64_dsub, h, one_v]
    decide +kernel
  refine ⟨e, ?_⟩
  rw [FP.Core.val64_dmul, e, hp]
  show FP.Core.roundRatio FP.Core.b64 (false != false) (0 * 4503599627370496) 1 _ = _
  rw [Nat.zero_mul]
  rfl
theorem frac_1 (x p : UInt64) (m : Nat) (b : Int) (h0 : 0 < m) (h1 : m < 4503599627370496) (hb1 : -100 ≤ b) (hb2 : b ≤ 100) (h : FP.Core.val64 x = .fin false (4503599627370496 + m) (-52)) (hp : FP.Core.val64 p = .fin false 4503599627370496 b) : ∃ k : Nat, 1 ≤ k ∧ k ≤ 52 ∧ FP.Core.val64 (FP.dsub x 4607182418800017408) = .fin false (m * 2 ^ k) (-52 - k) ∧ FP.Core.val64 (FP.dmul (FP.dsub x 4607182418800017408) p) = .fin false (m * 2 ^ k) (b - k) := by
  obtain ⟨k, k1, k2, k3, k4, k5⟩ := round_m m (-52) h0 h1 (by omega) (by omega)
  have e : FP.Core.val64 (FP.dsub x 4607182418800017408) = .fin false (m * 2 ^ k) (-52 - k) := by
    rw [FP.Core.val64_dsub, h, one_v, ← k5]
    show FP.Core.roundRatio FP.Core.b64 (FP.Core.sumSign false true (((4503599627370496 + m) * 2 ^ 0 : Nat) + -((4503599627370496 * 2 ^ 0 : Nat) : Int))) ((((4503599627370496 + m) * 2 ^ 0 : Nat) : Int) + -((4503599627370496 * 2 ^ 0 : Nat) : Int)).natAbs 1 (min (-52) (-52)) = _
    have e1 : (((4503599627370496 + m) * 2 ^ 0 : Nat) : Int) + -((4503599627370496 * 2 ^ 0 : Nat) : Int) = (m : Int) := by omega
    rw [e1]
    have e2 : FP.Core.sumSign false true (m : Int) = false := by
      unfold FP.Core.sumSign
      rw [if_neg (by omega)]
      exact decide_eq_false (by omega)
    rw [e2]
    rfl
  refine ⟨k, k1, k2, e, ?_⟩
  rw [FP.Core.val64_dmul, e, hp]
  show FP.Core.roundRatio FP.Core.b64 (false != false) (m * 2 ^ k * 4503599627370496) 1 (-52 - (k : Int) + b) = _
  refine FP.Core.roundRatio_exact FP.Core.good_b64 (by omega) (fitsD k3 k4 (by omega) (by omega)) ?_
  rw [show (-52 - (k : Int) + b - (b - (k : Int))).toNat = 0 by omega, show (b - (k : Int) - (-52 - (k : Int) + b)).toNat = 52 by omega]
  omega
theorem d2l_v {x : UInt64} {c : Nat} {q : Int} (h : FP.Core.val64 x = .fin false c q) (n : Nat) (hn : c * 2 ^ q.toNat / 2 ^ (-q).toNat = n) (hb : n < 9007199254740992) : FP.d2l x = lN n := by
  show FP.Core.toL (FP.Core.val64 x) = _
  rw [h]
  show Int64.ofInt (max (-2 ^ 63) (min (2 ^ 63 - 1) (((c * 2 ^ q.toNat / 2 ^ (-q).toNat : Nat) : Int)))) = _
  rw [hn, show max (-2 ^ 63) (min (2 ^ 63 - 1) ((n : Nat) : Int)) = (n : Int) by omega]
  rfl
/-- the whole number that stands behind the point, b digits of it -/
theorem VD.digits {x p : UInt64} {F s : Nat} (hs : s ≤ 52) (hF : F * 2 ^ s < 4503599627370496) (h : FP.Core.val64 x = .fin false (4503599627370496 + F * 2 ^ s) (-52)) (hp : FP.Core.val64 p = .fin false 4503599627370496 (-(s : Int))) : FP.d2l (FP.dmul (FP.dsub x 4607182418800017408) p) = lN F ∧ (FP.dsub x 4607182418800017408) &&& 0x7fffffffffffffff ≤ 0x7ff0000000000000 ∧ (FP.dmul (FP.dsub x 4607182418800017408) p) &&& 0x7fffffffffffffff ≤ 0x7ff0000000000000 := by
  have hs1 : 1 ≤ 2 ^ s := Nat.one_le_two_pow
  have hFs : F ≤ F * 2 ^ s := Nat.le_mul_of_pos_right _ (by omega)
  by_cases g : F = 0
  · subst g
    rw [Nat.zero_mul, Nat.add_zero] at h
    obtain ⟨e1, e2⟩ := frac_0 x p _ h hp
    exact ⟨d2l_v e2 0 (by rw [Nat.zero_mul, Nat.zero_div]) (by omega), nan_no e1, nan_no e2⟩
  · obtain ⟨k, k1, k2, e1, e2⟩ := frac_1 x p (F * 2 ^ s) (-(s : Int)) (by omega) hF (by omega) (by omega) h hp
    refine ⟨d2l_v e2 F ?_ (by omega), nan_no e1, nan_no e2⟩
    rw [show (-(s : Int) - (k : Int)).toNat = 0 by omega, show (-(-(s : Int) - (k : Int))).toNat = s + k by omega, Nat.pow_zero, Nat.mul_one, Nat.mul_assoc, ← Nat.pow_add]
    exact Nat.mul_div_cancel _ (Nat.two_pow_pos _)
