/-! ===== the quotient of two whole numbers as a double ===== -/
theorem i2d_v (n : Nat) (h0 : 0 < n) (h1 : n < 2147483648) : ∃ k : Nat, 1 ≤ k ∧ k ≤ 52 ∧ 4503599627370496 ≤ n * 2 ^ k ∧ n * 2 ^ k < 9007199254740992 ∧ FP.Core.val64 (FP.i2d (nI n)) = .fin false (n * 2 ^ k) (-(k : Int)) := by
  obtain ⟨k, k1, k2, k3, k4, k5⟩ := round_m n 0 h0 (by omega) (by omega) (by omega)
  refine ⟨k, k1, k2, k3, k4, ?_⟩
  rw [FP.Core.val64_i2d, nI_toInt (by omega)]
  show FP.Core.roundRatio FP.Core.b64 (decide ((n : Int) < 0)) (n : Int).natAbs 1 0 = _
  rw [decide_eq_false (by omega), Int.natAbs_natCast, k5, Int.zero_sub]
theorem log_52 {c : Nat} (h1 : 4503599627370496 ≤ c) (h2 : c < 9007199254740992) : c.log2 = 52 := by
  have a := Nat.log2_self_le (n := c) (by omega)
  have b := Nat.lt_log2_self (n := c)
  have l1 : ¬ c.log2 < 52 := by
    intro g
    have := Nat.pow_le_pow_right (n := 2) (by omega) (show c.log2 + 1 ≤ 52 by omega)
    omega
  have l2 : ¬ 53 ≤ c.log2 := by
    intro g
    have := Nat.pow_le_pow_right (n := 2) (by omega) g
    omega
  omega
theorem quot_v {c d : Nat} {e : Int} (c1 : 4503599627370496 ≤ c) (c2 : c < 9007199254740992) (d1 : 4503599627370496 ≤ d) (d2 : d < 9007199254740992) (e1 : -60 ≤ e) (e2 : e ≤ 60) : ∃ m q, FP.Core.roundRatio FP.Core.b64 false c d e = .fin false m q ∧ 4503599627370496 ≤ m ∧ m < 9007199254740992 ∧ -120 ≤ q ∧ q ≤ 20 := by
  have hf := FP.Core.roundRatio_fits FP.Core.good_b64 false c (B := d) (by omega) e
  have hlead : FP.Core.leading c d = 0 ∨ FP.Core.leading c d = -1 := by
    unfold FP.Core.leading
    rw [log_52 c1 c2, log_52 d1 d2]
    dsimp only
    split
    · exact Or.inl (by omega)
    · exact Or.inr (by omega)
  have hq : FP.Core.quantum FP.Core.b64 c d e = FP.Core.leading c d + e - 52 := by
    show max (-1074) (FP.Core.leading c d + e - ((53 : Int) - 1)) = _
    omega
  generalize hL : FP.Core.leading c d = L at hlead hq
  have hR : FP.Core.roundRatio FP.Core.b64 false c d e = FP.Core.settle FP.Core.b64 false (FP.Core.nearest (FP.Core.unitsNum c e (L + e - 52)) (FP.Core.unitsDen d e (L + e - 52))) (L + e - 52) := by
    unfold FP.Core.roundRatio
    rw [if_neg (by omega), hq]
    rfl
  generalize FP.Core.nearest (FP.Core.unitsNum c e (L + e - 52)) (FP.Core.unitsDen d e (L + e - 52)) = N at hR
  have hB : ∀ m q, FP.Core.roundRatio FP.Core.b64 false c d e = .fin false m q → -120 ≤ q → q ≤ 20 → 4503599627370496 ≤ m ∧ m < 9007199254740992 := by
    intro m q h q1 q2
    rw [h] at hf
    obtain ⟨f1, f2, f3, f4⟩ := hf
    refine ⟨?_, f1⟩
    rcases f4 with g | g
    · have g : q = (-1074 : Int) := g
      omega
    · exact g
  unfold FP.Core.settle FP.Core.bound at hR
  have qm : FP.Core.b64.qmax = (971 : Int) := rfl
  rw [qm] at hR
  by_cases g : N < 2 ^ FP.Core.b64.p
  · rw [if_pos g, if_pos (show L + e - 52 ≤ (971 : Int) by omega)] at hR
    obtain ⟨b1, b2⟩ := hB _ _ hR (by omega) (by omega)
    exact ⟨_, _, hR, b1, b2, by omega, by omega⟩
  · rw [if_neg g, if_pos (show L + e - 52 + 1 ≤ (971 : Int) by omega)] at hR
    obtain ⟨b1, b2⟩ := hB _ _ hR (by omega) (by omega)
    exact ⟨_, _, hR, b1, b2, by omega, by omega⟩
theorem ddiv_v (a b : Nat) (a0 : 0 < a) (a1 : a < 2147483648) (b0 : 0 < b) (b1 : b < 2147483648) : ∃ m q, VD (FP.ddiv (FP.i2d (nI a)) (FP.i2d (nI b))) m q ∧ -120 ≤ q ∧ q ≤ 20 := by
  obtain ⟨k, k1, k2, k3, k4, k5⟩ := i2d_v a a0 a1
  obtain ⟨l, l1, l2, l3, l4, l5⟩ := i2d_v b b0 b1
  obtain ⟨m, q, h, m1, m2, q1, q2⟩ := quot_v k3 k4 l3 l4 (e := -(k : Int) - -(l : Int)) (by omega) (by omega)
  refine ⟨m, q, ⟨?_, m1, m2, by omega, by omega⟩, q1, q2⟩
  rw [FP.Core.val64_ddiv, k5, l5, ← h]
  show (if b * 2 ^ l = 0 then (if a * 2 ^ k = 0 then FP.Core.Datum.nan else .inf (false != false)) else FP.Core.roundRatio FP.Core.b64 (false != false) (a * 2 ^ k) (b * 2 ^ l) (-(k : Int) - -(l : Int))) = _
  rw [if_neg (by omega)]
  rfl
