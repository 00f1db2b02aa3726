/-! ===== fill, both sides ===== -/
theorem toI64_lN (x : UInt64) (n : Nat) (h : x.toNat = n) : UInt64.toInt64 x = lN n := by
  have hx := x.toBitVec.isLt
  have hx : x.toNat < 18446744073709551616 := hx
  apply i64_ext
  rw [lN_tn (by omega)]
  exact h
theorem dbits_v {x : UInt64} {c : Nat} {q : Int} (h : FP.Core.val64 x = .fin false c q) : fJxe99ae_doubleToLongBits_ccdee x = some (lN (FP.Core.encode FP.Core.b64 (.fin false c q))) := by
  unfold fJxe99ae_doubleToLongBits_ccdee fJxe99ae_isNaN_b9ae7
  have e : FP.dcmp x x = some .eq := FP.Core.dcmp_self (by rw [h]; intro g; cases g)
  rw [e, if_pos (by decide), ob1_ev, if_pos e00, toI64_lN x _ (bits_of h)]
