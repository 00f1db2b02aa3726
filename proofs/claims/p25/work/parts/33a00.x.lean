/-! ===== copies; what if: both sides ===== -/
theorem fI_of (f : Nat → Int32) : ∃ a : Nat → Nat, f = fI a ∧ ∀ k, a k < 4294967296 := by
  refine ⟨fun k => (f k).toBitVec.toNat, funext fun k => ?_, fun k => (f k).toBitVec.isLt⟩
  show f k = nI (f k).toBitVec.toNat
  apply Int32.toBitVec_inj.mp
  apply BitVec.eq_of_toNat_eq
  rw [pk_tn (f k).toBitVec.isLt]
