/-! ===== ratio: rounded to a float, and back ===== -/
theorem d2f_v {x : UInt64} {c : Nat} {q : Int} (h : VD x c q) (h1 : -120 ≤ q) (h2 : q ≤ 20) : ∃ m r, FP.Core.val32 (FP.d2f x) = .fin false m r ∧ 8388608 ≤ m ∧ m < 16777216 ∧ -92 ≤ r ∧ r ≤ 50 := by
  obtain ⟨h0, c1, c2, -, -⟩ := h
  have hn : FP.Core.dIsNaN x = false := by
    show decide (FP.Core.val64 x = .nan) = false
    rw [h0]
    rfl
  have e : FP.d2f x = FP.Core.d2f x := by
    unfold FP.d2f
    rw [hn]
    rfl
  have hf := FP.Core.roundRatio_fits FP.Core.good_b32 false c (B := 1) (by omega) q
  have hV : FP.Core.val32 (FP.d2f x) = FP.Core.roundRatio FP.Core.b32 false c 1 q := by
    rw [e, FP.Core.val32_d2f, h0]
    rfl
  have hl1 : Nat.log2 1 = 0 := by decide +kernel
  have hlead : FP.Core.leading c 1 = 52 ∨ FP.Core.leading c 1 = 51 := by
    unfold FP.Core.leading
    rw [log_52 c1 c2, hl1]
    dsimp only
    split
    · exact Or.inl (by omega)
    · exact Or.inr (by omega)
  have hq : FP.Core.quantum FP.Core.b32 c 1 q = FP.Core.leading c 1 + q - 23 := by
    show max (-149) (FP.Core.leading c 1 + q - ((24 : Int) - 1)) = _
    omega
  generalize FP.Core.leading c 1 = L at hlead hq
  have hR : FP.Core.roundRatio FP.Core.b32 false c 1 q = FP.Core.settle FP.Core.b32 false (FP.Core.nearest (FP.Core.unitsNum c q (L + q - 23)) (FP.Core.unitsDen 1 q (L + q - 23))) (L + q - 23) := by
    unfold FP.Core.roundRatio
    rw [if_neg (by omega), hq]
    rfl
  generalize FP.Core.nearest (FP.Core.unitsNum c q (L + q - 23)) (FP.Core.unitsDen 1 q (L + q - 23)) = N at hR
  have hB : ∀ m r, FP.Core.roundRatio FP.Core.b32 false c 1 q = .fin false m r → -92 ≤ r → r ≤ 50 → 8388608 ≤ m ∧ m < 16777216 := by
    intro m r h q1 q2
    rw [h] at hf
    obtain ⟨f1, f2, f3, f4⟩ := hf
    refine ⟨?_, f1⟩
    rcases f4 with g | g
    · have g : r = (-149 : Int) := g
      omega
    · exact g
  unfold FP.Core.settle FP.Core.bound at hR
  have qm : FP.Core.b32.qmax = (104 : Int) := rfl
  rw [qm] at hR
  by_cases g : N < 2 ^ FP.Core.b32.p
  · rw [if_pos g, if_pos (show L + q - 23 ≤ (104 : Int) by omega)] at hR
    obtain ⟨b1, b2⟩ := hB _ _ hR (by omega) (by omega)
    exact ⟨_, _, hV.trans hR, b1, b2, by omega, by omega⟩
  · rw [if_neg g, if_pos (show L + q - 23 + 1 ≤ (104 : Int) by omega)] at hR
    obtain ⟨b1, b2⟩ := hB _ _ hR (by omega) (by omega)
    exact ⟨_, _, hV.trans hR, b1, b2, by omega, by omega⟩
theorem f2d_v {x : UInt32} {m : Nat} {r : Int} (h : FP.Core.val32 x = .fin false m r) (m1 : 8388608 ≤ m) (m2 : m < 16777216) (r1 : -200 ≤ r) (r2 : r ≤ 100) : VD (FP.f2d x) (m * 536870912) (r - 29) := by
  have hn : FP.Core.fIsNaN x = false := by
    show decide (FP.Core.val32 x = .nan) = false
    rw [h]
    rfl
  have e : FP.f2d x = FP.Core.f2d x := by
    unfold FP.f2d
    rw [hn]
    rfl
  have b1 : 4503599627370496 ≤ m * 536870912 := by omega
  have b2 : m * 536870912 < 9007199254740992 := by omega
  refine ⟨?_, b1, b2, by omega, by omega⟩
  rw [e, FP.Core.val64_f2d, h]
  show FP.Core.roundRatio FP.Core.b64 false m 1 r = _
  refine FP.Core.roundRatio_exact FP.Core.good_b64 (by omega) (fitsD b1 b2 (by omega) (by omega)) ?_
  rw [show (r - (r - 29)).toNat = 29 by omega, show (r - 29 - r).toNat = 0 by omega]
  omega
theorem enc32_v {c : Nat} {q : Int} (h1 : 8388608 ≤ c) (h3 : -149 ≤ q) : FP.Core.encode FP.Core.b32 (.fin false c q) = (q + 150).toNat * 8388608 + (c - 8388608) := by
  show (if c < 8388608 then (0 * 256 + 0) * 8388608 + c else (0 * 256 + ((q - -149).toNat + 1)) * 8388608 + (c - 8388608)) = _
  rw [if_neg (by omega), show (q - -149).toNat + 1 = (q + 150).toNat by omega]
  omega
theorem bits32_of {x : UInt32} {c : Nat} {q : Int} (h : FP.Core.val32 x = .fin false c q) : x.toNat = FP.Core.encode FP.Core.b32 (.fin false c q) := by
  have h2 := FP.Core.of32_val32 (a := x) (by rw [h]; intro e; cases e)
  rw [h] at h2
  have h3 := FP.Core.encode_lt FP.Core.good_b32 (.fin false c q) (by rw [← h]; exact FP.Core.val32_fits x)
  rw [FP.Core.size_b32] at h3
  rw [← h2]
  show (UInt32.ofNat (FP.Core.encode FP.Core.b32 (.fin false c q))).toNat = _
  rw [UInt32.toNat_ofNat']
  exact Nat.mod_eq_of_lt h3
theorem nan32_no {x : UInt32} {c : Nat} {q : Int} (h : FP.Core.val32 x = .fin false c q) (h1 : 8388608 ≤ c) (h2 : c < 16777216) (h3 : -149 ≤ q) (h4 : q ≤ 100) : x &&& 0x7fffffff ≤ 0x7f800000 := by
  have e := bits32_of h
  rw [enc32_v h1 h3] at e
  rw [UInt32.le_iff_toNat_le, UInt32.toNat_and]
  have h4 : x.toNat &&& (0x7fffffff : UInt32).toNat = x.toNat % 2 ^ 31 := Nat.and_two_pow_sub_one_eq_mod x.toNat 31
  rw [h4]
  show x.toNat % 2 ^ 31 ≤ 2139095040
  omega
theorem toI32_nI (x : UInt32) (n : Nat) (h : x.toNat = n) : UInt32.toInt32 x = nI n := by
  have hx : x.toNat < 4294967296 := x.toBitVec.isLt
  apply Int32.toBitVec_inj.mp
  apply BitVec.eq_of_toNat_eq
  rw [pk_tn (by omega)]
  exact h
theorem fbits_v {x : UInt32} {c : Nat} {q : Int} (h : FP.Core.val32 x = .fin false c q) : fJxf58ca_floatToIntBits_5c35a x = some (nI (FP.Core.encode FP.Core.b32 (.fin false c q))) := by
  unfold fJxf58ca_floatToIntBits_5c35a fJxf58ca_isNaN_12338
  have e : FP.fcmp x x = some .eq := FP.Core.fcmp_self (by rw [h]; intro g; cases g)
  rw [e, if_pos (by decide), ob1_ev, if_pos e00, toI32_nI x _ (bits32_of h)]
theorem ratio_c (a z : Nat → Nat) (hA : RA a z) (h1 : 2 ≤ z 1) (h1b : z 1 ≤ 99) (h2 : 1 ≤ z 2) (h2b : z 2 ≤ 99) : ∃ r, fX4_ratio (fI a) = some r ∧ fX5_ratio (fI z) = some r := by
  have e16 : a 16 = z 1 := hA 16 (by omega)
  have e17 : a 17 = z 2 := hA 17 (by omega)
  have e2 : 2 * nI (a 17) = nI (2 * z 2) := by rw [e17, li_2, pk_mul]
  have e3 : 2 * fI z 2 = nI (2 * z 2) := by rw [fI_ap, li_2, pk_mul]
  have hp : (0 : Int32) < nI (2 * z 2) := nI_lt (a := 0) (by omega) (by omega)
  obtain ⟨m, q, hv, q1, q2⟩ := ddiv_v (z 1) (2 * z 2) (by omega) (by omega) (by omega) (by omega)
  obtain ⟨m3, r, hw, m1, m2, r1, r2⟩ := d2f_v hv q1 q2
  have hd := f2d_v hw m1 m2 (by omega) (by omega)
  have hn32 := nan32_no hw m1 m2 (by omega) (by omega)
  obtain ⟨F, hF⟩ := d23 m3 hd.2.1
  obtain ⟨y, y1, y2⟩ := bits_loops 23 127 (by omega) (by omega) (m3 * 536870912) (r - 29) _ hd (by omega) (by omega)
  rw [← li_127] at y2
  have y3 : FP.Core.val64 y = .fin false (4503599627370496 + F * 536870912) (-52) := by rw [y1.1, show m3 * 536870912 = 4503599627370496 + F * 536870912 by omega]
  have y4 := bits72_23 y F (r - 29 + 52) y3 (by omega) (by omega) (by omega)
  have y5 := enc32_v (c := m3) (q := r) m1 (by omega)
  refine ⟨nI ((r + 150).toNat * 8388608 + F), ?_, ?_⟩
  · unfold fX4_ratio
    rw [set_1, ob1_ev, nm_ev, e2, if_pos hp, set_0, ob1_ev, e16, nd_ev (nan_no hv.1), nd_ev hn32, nm_ev, nd_ev (nan_no hd.1), y2, y4, ob1_ev, lN_i, show r - 29 + 52 + 127 = r + 150 by omega]
  · unfold fX5_ratio
    rw [e3, fI_ap z 1, nd_ev (nan_no hv.1), nd_ev hn32, fbits_v hw, ob1_ev, y5, show m3 - 8388608 = F by omega]
