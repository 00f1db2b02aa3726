/-! ===== doubles: halves, doubles, and their bits ===== -/
def VD (x : UInt64) (c : Nat) (q : Int) : Prop := FP.Core.val64 x = .fin false c q ∧ 4503599627370496 ≤ c ∧ c < 9007199254740992 ∧ -1000 ≤ q ∧ q ≤ 900
theorem fitsD {c : Nat} {q : Int} (h1 : 4503599627370496 ≤ c) (h2 : c < 9007199254740992) (h3 : -1000 ≤ q) (h4 : q ≤ 900) : FP.Core.fits FP.Core.b64 (.fin false c q) := by
  refine ⟨h2, ?_, ?_, Or.inr h1⟩
  · show (-1074 : Int) ≤ q
    omega
  · show q ≤ (971 : Int)
    omega
theorem two_v : FP.Core.val64 4611686018427387904 = .fin false 4503599627370496 (-51) := by decide +kernel
theorem one_v : FP.Core.val64 4607182418800017408 = .fin false 4503599627370496 (-52) := by decide +kernel
theorem VD.half {x : UInt64} {c : Nat} {q : Int} (h : VD x c q) (hq : -999 ≤ q) : VD (FP.ddiv x 4611686018427387904) c (q - 1) := by
  obtain ⟨h0, h1, h2, h3, h4⟩ := h
  refine ⟨?_, h1, h2, by omega, by omega⟩
  rw [FP.Core.val64_ddiv, h0, two_v]
  show (if (4503599627370496 : Nat) = 0 then (if c = 0 then FP.Core.Datum.nan else .inf (false != false)) else FP.Core.roundRatio FP.Core.b64 (false != false) c 4503599627370496 (q - -51)) = _
  rw [if_neg (by omega)]
  refine FP.Core.roundRatio_exact FP.Core.good_b64 (by omega) (fitsD h1 h2 (by omega) (by omega)) ?_
  rw [show (q - -51 - (q - 1)).toNat = 52 by omega, show (q - 1 - (q - -51)).toNat = 0 by omega]
  omega
theorem VD.dbl {x : UInt64} {c : Nat} {q : Int} (h : VD x c q) (hq : q ≤ 899) : VD (FP.dmul x 4611686018427387904) c (q + 1) := by
  obtain ⟨h0, h1, h2, h3, h4⟩ := h
  refine ⟨?_, h1, h2, by omega, by omega⟩
  rw [FP.Core.val64_dmul, h0, two_v]
  show FP.Core.roundRatio FP.Core.b64 (false != false) (c * 4503599627370496) 1 (q + -51) = _
  refine FP.Core.roundRatio_exact FP.Core.good_b64 (by omega) (fitsD h1 h2 (by omega) (by omega)) ?_
  rw [show (q + -51 - (q + 1)).toNat = 0 by omega, show (q + 1 - (q + -51)).toNat = 52 by omega]
  omega
