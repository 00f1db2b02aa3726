/-! ===== the bits, put together ===== -/
theorem enc_v {c : Nat} {q : Int} (h1 : 4503599627370496 ≤ c) (h3 : -1000 ≤ q) : FP.Core.encode FP.Core.b64 (.fin false c q) = (q + 1075).toNat * 4503599627370496 + (c - 4503599627370496) := by
  show (if c < 4503599627370496 then (0 * 2048 + 0) * 4503599627370496 + c else (0 * 2048 + ((q - -1074).toNat + 1)) * 4503599627370496 + (c - 4503599627370496)) = _
  rw [if_neg (by omega), show (q - -1074).toNat + 1 = (q + 1075).toNat by omega]
  omega
theorem p52_v : FP.Core.val64 (FP.l2d ((1 : Int64) <<< ((52 : Int32).toInt64 &&& 63))) = .fin false 4503599627370496 0 := by decide +kernel
theorem p23_v : FP.Core.val64 (FP.l2d ((1 : Int64) <<< ((23 : Int32).toInt64 &&& 63))) = .fin false 4503599627370496 (-29) := by decide +kernel
theorem shl52 (n : Nat) (h : n < 2048) : (lN n) <<< ((52 : Int32).toInt64 &&& 63) = lN (n * 4503599627370496) := by
  have e : ((52 : Int32).toInt64 &&& 63) = lN 52 := by decide
  rw [e]
  have : ∀ n, n < 2048 → (lN n) <<< (lN 52) = lN (n * 4503599627370496) := by decide +kernel
  exact this n h
theorem bits72_52 (y : UInt64) (c : Nat) (e : Int) (h : VD y c (-52)) (h1 : -900 ≤ e) (h2 : e ≤ 900) : fX4_bitsOf_72 52 1023 y (iI e) = some (lN ((e + 1023).toNat * 4503599627370496 + (c - 4503599627370496))) := by
  obtain ⟨h0, c1, c2, -, -⟩ := h
  have hd := VD.digits (x := y) (F := c - 4503599627370496) (s := 0) (by omega) (by omega) (by rw [h0, show 4503599627370496 + (c - 4503599627370496) * 2 ^ 0 = c by omega]) p52_v
  unfold fX4_bitsOf_72
  rw [nd_ev hd.2.1, nd_ev hd.2.2, nm_ev, hd.1, iI_add (x := 1023) (j := 1023) (by decide) (by omega) (by omega) (by omega) (by omega)]
  obtain ⟨n, hn⟩ : ∃ n : Nat, e + 1023 = n := ⟨(e + 1023).toNat, by omega⟩
  rw [hn, Int.toNat_natCast, ← iI_nI (by omega), nI_l (by omega), shl52 n (by omega), lN_add]
