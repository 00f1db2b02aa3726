/-! ===== ratio, both sides ===== -/
theorem shl23 (n : Nat) (h : n < 256) : (lN n) <<< ((23 : Int32).toInt64 &&& 63) = lN (n * 8388608) := by
  have e : ((23 : Int32).toInt64 &&& 63) = lN 23 := by decide
  rw [e]
  have : ∀ n, n < 256 → (lN n) <<< (lN 23) = lN (n * 8388608) := by decide +kernel
  exact this n h
theorem bits72_23 (y : UInt64) (d : Nat) (e : Int) (h : VD y (d * 536870912) (-52)) (h1 : -120 ≤ e) (h2 : e ≤ 120) : fX4_bitsOf_72 23 127 y (iI e) = some (lN ((e + 127).toNat * 8388608 + (d - 8388608))) := by
  obtain ⟨h0, c1, c2, -, -⟩ := h
  have hF0 : (d - 8388608) * 536870912 < 4503599627370496 := by omega
  have e90 : d * 536870912 = 4503599627370496 + (d - 8388608) * 536870912 := by omega
  have p29 : (2 : Nat) ^ 29 = 536870912 := rfl
  have hF : (d - 8388608) * 2 ^ 29 < 4503599627370496 := p29.symm ▸ hF0
  have e9 : d * 536870912 = 4503599627370496 + (d - 8388608) * 2 ^ 29 := p29.symm ▸ e90
  have hd := VD.digits (x := y) (F := d - 8388608) (s := 29) (by omega) hF (e9 ▸ h0) p23_v
  unfold fX4_bitsOf_72
  rw [nd_ev hd.2.1, nd_ev hd.2.2, nm_ev, hd.1, iI_add (x := 127) (j := 127) (by decide) (by omega) (by omega) (by omega) (by omega)]
  obtain ⟨n, hn⟩ : ∃ n : Nat, e + 127 = n := ⟨(e + 127).toNat, by omega⟩
  rw [hn, Int.toNat_natCast, ← iI_nI (by omega), nI_l (by omega), shl23 n (by omega), lN_add]
