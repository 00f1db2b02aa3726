/-! ===== ratio, both sides ===== -/
theorem shl23 (n : Nat) (h : n < 256) : (lN n) <<< ((23 : Int32).toInt64 &&& 63) = lN (n * 8388608) := by
  have e : ((23 : Int32).toInt64 &&& 63) = lN 23 := by decide
  rw [e]
  have : ∀ n, n < 256 → (lN n) <<< (lN 23) = lN (n * 8388608) := by decide +kernel
  exact this n h
theorem d23 (d : Nat) (h1 : 4503599627370496 ≤ d * 536870912) : ∃ F, d = 8388608 + F := by
  refine ⟨d - 8388608, ?_⟩
  have : 8388608 ≤ d := by
    apply Classical.byContradiction
    intro g
    have := Nat.mul_le_mul_right 536870912 (show d ≤ 8388607 by omega)
    omega
  omega
theorem bits72_23 (y : UInt64) (F : Nat) (e : Int) (h : FP.Core.val64 y = .fin false (4503599627370496 + F * 536870912) (-52)) (hF : F < 8388608) (h1 : -120 ≤ e) (h2 : e ≤ 120) : fX4_bitsOf_72 23 127 y (iI e) = some (lN ((e + 127).toNat * 8388608 + F)) := by
  have hF0 : F * 536870912 < 4503599627370496 := Nat.lt_of_lt_of_le (Nat.mul_lt_mul_of_pos_right hF (by decide)) (by decide)
  have hd := VD.digits (x := y) (F := F) (s := 29) (by decide) hF0 h p23_v
  unfold fX4_bitsOf_72
  rw [nd_ev hd.2.1, nd_ev hd.2.2, nm_ev, hd.1, iI_add (x := 127) (j := 127) (by decide) (by omega) (by omega) (by omega) (by omega)]
  obtain ⟨n, hn⟩ : ∃ n : Nat, e + 127 = n := ⟨(e + 127).toNat, by omega⟩
  rw [hn, Int.toNat_natCast, ← iI_nI (by omega), nI_l (by omega), shl23 n (by omega), lN_add]
