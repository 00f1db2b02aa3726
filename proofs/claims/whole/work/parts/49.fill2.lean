/-! ===== fill, both sides ===== -/
theorem toI64_lN (x : UInt64) (n : Nat) (h : x.toNat = n) : UInt64.toInt64 x = lN n := by
  have hx := x.toBitVec.isLt
  have hx : x.toNat < 18446744073709551616 := hx
  apply i64_ext
  rw [lN_tn (by omega)]
  exact h
theorem dbits_v {x : UInt64} {c : Nat} {q : Int} (h : FP.Core.val64 x = .fin false c q) : fJxe99ae_doubleToLongBits_ccdee x = some (lN (FP.Core.encode FP.Core.b64 (.fin false c q))) := by
  unfold fJxe99ae_doubleToLongBits_ccdee fJxe99ae_isNaN_b9ae7
  have e : FP.dcmp x x = some .eq := FP.Core.dcmp_self (by rw [h]; intro g; cases g)
  rw [e, if_pos (by decide), ob1_ev, if_pos e00, toI64_lN x _ (bits_of h)]
theorem ddiv_0 (b : Nat) (b0 : 0 < b) (b1 : b < 2147483648) : FP.Core.val64 (FP.ddiv (FP.i2d (nI 0)) (FP.i2d (nI b))) = .fin false 0 (-1074) := by
  obtain ⟨l, l1, l2, l3, l4, l5⟩ := i2d_v b b0 b1
  have e : FP.Core.val64 (FP.i2d (nI 0)) = .fin false 0 (-1074) := by decide +kernel
  rw [FP.Core.val64_ddiv, e, l5]
  show (if b * 2 ^ l = 0 then (if (0 : Nat) = 0 then FP.Core.Datum.nan else .inf (false != false)) else FP.Core.roundRatio FP.Core.b64 (false != false) 0 (b * 2 ^ l) (-1074 - -(l : Int))) = _
  rw [if_neg (by omega)]
  rfl
theorem fill_c (a z : Nat → Nat) (hA : RA a z) (b0 : z 0 < 2147483648) (b25 : z 25 < 2147483648) : ∃ r, fX4_fill (fI a) (nI (z 25)) = some r ∧ fX5_fill (fI z) = some r := by
  unfold fX4_fill fX5_fill
  rw [nm_ev, fI_ap a 0, hA 0 (by omega), show z (mu 0) = z 0 from rfl, fI_ap z 0, fI_ap z 25]
  by_cases h : z 0 = 0
  · rw [h, if_neg (by decide), if_pos (by decide)]
    exact ⟨0, rfl, rfl⟩
  · have hp : (0 : Int32) < nI (z 0) := nI_lt (a := 0) (by omega) (by omega)
    rw [if_pos hp, if_neg (nI_ne0 (by omega) (by omega))]
    by_cases g : z 25 = 0
    · rw [g]
      have hv := ddiv_0 (z 0) (by omega) b0
      rw [nd_ev (nan_no hv), nd_ev (nan_no hv), dbits_v hv, ob1_ev]
      unfold fX4_bitsOf
      rw [dcmp_v hv zero_v, if_neg (by decide), ob1_ev]
      exact ⟨0, rfl, by decide +kernel⟩
    · obtain ⟨m, q, hv, q1, q2⟩ := ddiv_v (z 25) (z 0) (by omega) b25 (by omega) b0
      obtain ⟨y, y1, y2⟩ := bits_loops 52 1023 (by omega) (by omega) m q _ hv (by omega) (by omega)
      rw [← li_1023] at y2
      rw [nd_ev (nan_no hv.1), nd_ev (nan_no hv.1), dbits_v hv.1, ob1_ev, y2, bits72_52 y m _ y1 (by omega) (by omega), ob1_ev, enc_v hv.2.1 (by omega), show q + 52 + 1023 = q + 1075 by omega]
      exact ⟨_, rfl, rfl⟩
