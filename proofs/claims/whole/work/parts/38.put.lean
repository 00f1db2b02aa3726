/-! ===== characters of a long: both sides ===== -/
def nX (x : Int64) : Nat := x.toBitVec.toNat
theorem nX_lt (x : Int64) : nX x < 18446744073709551616 := x.toBitVec.isLt
theorem i64_ext {x y : Int64} (h : x.toBitVec.toNat = y.toBitVec.toNat) : x = y := Int64.toBitVec_inj.mp (BitVec.eq_of_toNat_eq h)
theorem lN_tn {n : Nat} (h : n < 18446744073709551616) : (lN n).toBitVec.toNat = n := by
  show (BitVec.ofNat 64 n).toNat = n
  rw [BitVec.toNat_ofNat]
  exact Nat.mod_eq_of_lt h
theorem and255 (b : BitVec 64) : (b &&& 255#64).toNat = b.toNat % 256 := by
  rw [BitVec.toNat_and]
  exact Nat.and_two_pow_sub_one_eq_mod b.toNat 8
theorem x_and (x : Int64) : x &&& 255 = lN (nX x % 256) := by
  apply i64_ext
  rw [lN_tn (by omega)]
  exact and255 x.toBitVec
theorem x_zero (x : Int64) : lg_cmp x 0 = 0 ↔ nX x = 0 := by
  have h : lg_cmp x 0 = 0 ↔ x = 0 := lg_cmp_eq x 0
  rw [h]
  constructor
  · intro e
    subst e
    rfl
  · intro e
    exact i64_ext e
theorem x_shr8 (x : Int64) : nX (x.toUInt64 >>> ((8 : Int32).toInt64.toUInt64 &&& Int64.toUInt64 63)).toInt64 = nX x / 256 := by
  have h : ((8 : Int32).toInt64.toUInt64 &&& Int64.toUInt64 63) = 8 := by decide
  rw [h]
  show (x.toUInt64 >>> 8).toNat = _
  rw [UInt64.toNat_shiftRight]
  show nX x >>> (8 % 64) = _
  rw [Nat.shiftRight_eq_div_pow]
def byX (N i : Nat) : Nat := N / 256 ^ i % 256
theorem shr_bits (b : BitVec 64) (k : Nat) (hk : k + 8 ≤ 64) : (b.sshiftRight k).toNat % 2 ^ 8 = b.toNat / 2 ^ k % 2 ^ 8 := by
  apply Nat.eq_of_testBit_eq
  intro i
  rw [Nat.testBit_mod_two_pow, Nat.testBit_mod_two_pow, Nat.testBit_div_two_pow]
  by_cases hi : i < 8
  · have h := BitVec.getLsbD_sshiftRight b k i
    rw [if_pos (by omega)] at h
    have h2 : (decide (64 ≤ i)) = false := by simp; omega
    rw [h2] at h
    simp only [hi, decide_true, Bool.true_and]
    show (b.sshiftRight k).getLsbD i = b.getLsbD (i + k)
    rw [h, Nat.add_comm]
    rfl
  · simp only [hi, decide_false, Bool.false_and]
theorem sh_a : ∀ i, i < 8 → ((8 * nI i).toInt64 &&& 63) = lN (8 * i) := by decide +kernel
theorem sh_b : ∀ i, i < 8 → ((lN (8 * i)).toBitVec.smod 64).toNat = 8 * i := by decide +kernel
theorem sh_c : ∀ i, i < 8 → ((8 * nI i).toInt64.toUInt64 &&& Int64.toUInt64 63) = UInt64.ofNat (8 * i) := by decide +kernel
theorem sh_d : ∀ i, i < 8 → (UInt64.ofNat (8 * i)).toNat % 64 = 8 * i := by decide +kernel
theorem p256 (i : Nat) : 2 ^ (8 * i) = 256 ^ i := by rw [Nat.pow_mul]
theorem byX_lt (N i : Nat) : byX N i < 256 := Nat.mod_lt _ (by omega)
theorem byteOf_z (x : Int64) (i : Nat) (hi : i < 8) : fX5_byteOf x (nI i) = some (nI (byX (nX x) i)) := by
  unfold fX5_byteOf
  rw [sh_a i hi]
  have h : (x >>> lN (8 * i)) &&& 255 = lN (byX (nX x) i) := by
    apply i64_ext
    have := byX_lt (nX x) i
    rw [lN_tn (by omega)]
    show ((x >>> lN (8 * i)).toBitVec &&& 255#64).toNat = _
    rw [and255, Int64.toBitVec_shiftRight]
    show (x.toBitVec.sshiftRight (((lN (8 * i)).toBitVec.smod 64).toNat)).toNat % 2 ^ 8 = _
    rw [sh_b i hi, shr_bits _ _ (by omega), p256]
    rfl
  rw [h, lN_i]
theorem char_c (x : Int64) (i : Nat) (hi : i < 8) : vp_nar .char ((((((x.toUInt64 >>> ((8 * nI i).toInt64.toUInt64 &&& Int64.toUInt64 63)).toInt64) &&& 255).toInt32).toUInt32 % 65536).toInt32) = nI (byX (nX x) i) := by
  have hb := byX_lt (nX x) i
  rw [sh_c i hi, x_and, lN_i, pk_char]
  have h : nX (x.toUInt64 >>> UInt64.ofNat (8 * i)).toInt64 = nX x / 256 ^ i := by
    show (x.toUInt64 >>> UInt64.ofNat (8 * i)).toNat = _
    rw [UInt64.toNat_shiftRight, sh_d i hi, Nat.shiftRight_eq_div_pow, p256]
    rfl
  rw [h, pk_tn (by have := Nat.mod_lt (nX x / 256 ^ i) (show 0 < 256 by omega); omega), Nat.mod_eq_of_lt (by have := Nat.mod_lt (nX x / 256 ^ i) (show 0 < 256 by omega); omega)]
  exact nar_char (by have := Nat.mod_lt (nX x / 256 ^ i) (show 0 < 256 by omega); omega)
theorem by_step (N k : Nat) : N / 256 ^ k = 0 ↔ byX N k = 0 ∧ N / 256 ^ (k + 1) = 0 := by
  unfold byX
  rw [Nat.pow_succ, ← Nat.div_div_eq_div_mul]
  omega
theorem by_8 (N : Nat) (h : N < 18446744073709551616) : N / 256 ^ 8 = 0 := Nat.div_eq_of_lt h
theorem tail_z (x : Int64) (c : Nat) (hc : c ≤ 8) : ∀ (f k : Nat), k ≤ 8 → 8 < f + k → fX5_toldBy_42 f x (nI c) (nI k) = some (if nX x / 256 ^ k = 0 then (if c = 0 then -2 else nI c) else -2) := by
  intro f
  induction f with
  | zero => intro k g1 g2; omega
  | succ f ih =>
    intro k g1 g2
    show fX5_toldBy_42_b (fX5_toldBy_42 f) x (nI c) (nI k) = _
    unfold fX5_toldBy_42_b
    have c8 := nI_le31 (a := 8) (b := k) (by omega) (by omega)
    have cc := nI_eq32 (a := c) (b := 0) (by omega) (by omega)
    rw [li_8, li_0]
    by_cases h8 : k = 8
    · subst h8
      rw [if_pos (c8.2 (by omega)), if_pos (by_8 _ (nX_lt x))]
      by_cases h0 : c = 0
      · rw [if_pos (cc.2 h0), if_pos h0]
      · rw [if_neg (fun e => h0 (cc.1 e)), if_neg h0]
    · have hb := byX_lt (nX x) k
      have cb := nI_eq32 (a := byX (nX x) k) (b := 0) (by omega) (by omega)
      have st := by_step (nX x) k
      rw [if_neg (fun e => by have := c8.1 e; omega), byteOf_z x k (by omega), ob1_ev, nm_ev, li_1, nI_add]
      by_cases h0 : byX (nX x) k = 0
      · rw [if_pos (cb.2 h0), ih (k + 1) (by omega) (by omega)]
        by_cases h1 : nX x / 256 ^ (k + 1) = 0
        · rw [if_pos h1, if_pos (st.2 ⟨h0, h1⟩)]
        · rw [if_neg h1, if_neg (fun e => h1 (st.1 e).2)]
      · rw [if_neg (fun e => h0 (cb.1 e)), if_neg (fun e => h0 (st.1 e).1)]
theorem told_loop (x : Int64) : ∀ (f g k : Nat) (y : Int64), k ≤ 8 → 8 < f + k → 8 < g + k → nX y = nX x / 256 ^ k → ∃ c, c ≤ 8 ∧ fX4_charactersIn_5 f y (nI k) = some (nI c) ∧ fX5_toldBy_2 g x (nI k) = some (if c = 0 then -2 else nI c) ∧ (c ≠ 0 → k ≤ c ∧ ∀ j, k ≤ j → j < c → 33 ≤ byX (nX x) j ∧ byX (nX x) j ≤ 126) := by
  intro f
  induction f with
  | zero => intro g k y g1 g2; omega
  | succ f ih =>
    intro g k y g1 g2 g3 hy
    obtain ⟨g, rfl⟩ : ∃ g', g = g' + 1 := ⟨g - 1, by omega⟩
    show ∃ c, c ≤ 8 ∧ fX4_charactersIn_5_b (fX4_charactersIn_5 f) y (nI k) = some (nI c) ∧ fX5_toldBy_2_b (fX5_toldBy_2 g) x (nI k) = some (if c = 0 then -2 else nI c) ∧ (c ≠ 0 → k ≤ c ∧ ∀ j, k ≤ j → j < c → 33 ≤ byX (nX x) j ∧ byX (nX x) j ≤ 126)
    unfold fX4_charactersIn_5_b fX5_toldBy_2_b
    have c8 := nI_le31 (a := 8) (b := k) (by omega) (by omega)
    have z0 := x_zero y
    rw [hy] at z0
    have st := by_step (nX x) k
    rw [li_8, tail_z x k (by omega) KF k g1 (by rw [KF_eq]; omega)]
    -- the loop has come to its end
    have fin : ∃ c, c ≤ 8 ∧ (if lg_cmp y 0 = 0 then some (nI k) else some 0) = some (nI c) ∧ some (if nX x / 256 ^ k = 0 then (if k = 0 then (-2 : Int32) else nI k) else -2) = some (if c = 0 then -2 else nI c) ∧ (c ≠ 0 → k ≤ c ∧ ∀ j, k ≤ j → j < c → 33 ≤ byX (nX x) j ∧ byX (nX x) j ≤ 126) := by
      by_cases h0 : nX x / 256 ^ k = 0
      · rw [if_pos (z0.2 h0), if_pos h0]
        exact ⟨k, g1, rfl, rfl, fun _ => ⟨Nat.le_refl _, fun j h1 h2 => by omega⟩⟩
      · rw [if_neg (fun e => h0 (z0.1 e)), if_neg h0]
        exact ⟨0, by omega, rfl, rfl, fun e => absurd rfl e⟩
    by_cases h8 : 8 ≤ k
    · rw [if_pos (c8.2 h8), if_pos (c8.2 h8)]
      exact fin
    · have hb := byX_lt (nX x) k
      have cb := nI_eq32 (a := byX (nX x) k) (b := 0) (by omega) (by omega)
      have hyb : nX y % 256 = byX (nX x) k := by rw [hy]; rfl
      have cl : lg_cmp (y &&& 255) 0 = 0 ↔ byX (nX x) k = 0 := by
        rw [x_zero, x_and, hyb]
        show (lN _).toBitVec.toNat = 0 ↔ _
        rw [lN_tn (by omega)]
      rw [if_neg (fun e => h8 (c8.1 e)), if_neg (fun e => h8 (c8.1 e)), byteOf_z x k (by omega), ob1_ev, ob1_ev, in_eq, x_and, hyb, lN_i]
      rw [x_and, hyb] at cl
      by_cases h0 : byX (nX x) k = 0
      · rw [if_pos (cl.2 h0), if_pos (show nI (byX (nX x) k) = 0 by rw [h0]; rfl)]
        exact fin
      · rw [if_neg (fun e => h0 (cl.1 e)), if_neg (show ¬ nI (byX (nX x) k) = 0 from fun e => h0 (cb.1 e)), li_33, li_126]
        rcases in_nI (nI (byX (nX x) k)) 33 126 (by omega) (by omega) with h | ⟨n, hn, n1, n2, h⟩
        · rw [h]
          exact ⟨0, by omega, rfl, rfl, fun e => absurd rfl e⟩
        · have hn := (nI_eq32 (by omega) (by omega)).1 hn
          rw [h, ob1_ev, ob1_ev, if_neg (by decide), if_neg (by decide), nm_ev, nm_ev, nm_ev, li_1, nI_add]
          have := x_shr8 y
          rw [li_8] at this
          obtain ⟨c, e1, e2, e3, e4⟩ := ih g (k + 1) (y.toUInt64 >>> ((nI 8).toInt64.toUInt64 &&& Int64.toUInt64 63)).toInt64 (by omega) (by omega) (by omega) (by rw [this, hy, Nat.div_div_eq_div_mul, ← Nat.pow_succ])
          refine ⟨c, e1, e2, e3, fun hc => ?_⟩
          obtain ⟨q1, q2⟩ := e4 hc
          refine ⟨by omega, fun j j1 j2 => ?_⟩
          by_cases ej : j = k
          · subst ej
            omega
          · exact q2 j (by omega) j2
theorem told_c (x : Int64) : ∃ c, c ≤ 8 ∧ fX4_charactersIn x = some (nI c) ∧ fX5_toldBy x = some (if c = 0 then -2 else nI c) ∧ ∀ j, j < c → 33 ≤ byX (nX x) j ∧ byX (nX x) j ≤ 126 := by
  obtain ⟨c, e1, e2, e3, e4⟩ := told_loop x KF KF 0 x (by omega) (by rw [KF_eq]; omega) (by rw [KF_eq]; omega) (by rw [Nat.pow_zero, Nat.div_one])
  exact ⟨c, e1, e2, e3, fun j hj => (e4 (by omega)).2 j (by omega) hj⟩
/-- the characters of a number, behind the text -/
def putP (p : Nat → Nat) (n m : Nat) (N : Nat) : Nat → Nat := fun j => if n ≤ j ∧ j < n + m then byX N (m - 1 - (j - n)) else p j
theorem app_loop (x : Int64) (m n : Nat) (hm : m ≤ 8) (hn : n + m ≤ 80) (ch0 : Nat → Int32) : ∀ (f i : Nat) (ch : Nat → Int32), i ≤ m → m < f + i → (∀ j, ch j = if n ≤ j ∧ j < n + i then nI (byX (nX x) (m - 1 - (j - n))) else ch0 j) → fX1_append_3 f ch (nI (n + i)) x (nI m) (nI i) = some ((fun j => if n ≤ j ∧ j < n + m then nI (byX (nX x) (m - 1 - (j - n))) else ch0 j), nI (n + m)) := by
  intro f
  induction f with
  | zero => intro i ch g1 g2; omega
  | succ f ih =>
    intro i ch g1 g2 hc
    show fX1_append_3_b (fX1_append_3 f) ch (nI (n + i)) x (nI m) (nI i) = _
    unfold fX1_append_3_b
    have cm := nI_le31 (a := m) (b := i) (by omega) (by omega)
    by_cases e : m ≤ i
    · have e : i = m := by omega
      subst e
      rw [if_pos (cm.2 (by omega))]
      refine congrArg some (Prod.ext (funext fun j => hc j) rfl)
    · rw [if_neg (fun q => e (cm.1 q)), li_80, if_neg (fun q => by have := (nI_le31 (by omega) (by omega)).1 q; omega), chk_nI (by omega) (by omega), nm_ev, nm_ev, nm_ev, li_1, nI_sub (show 1 ≤ m by omega), nI_sub (show i ≤ m - 1 by omega), nI_add, nI_add]
      have hch := char_c x (m - 1 - i) (by omega)
      rw [show (8 : Int32) * nI (m - 1 - i) = 8 * nI (m - 1 - i) from rfl, hch]
      refine ih (i + 1) _ (by omega) (by omega) fun j => ?_
      by_cases ej : j = n + i
      · subst ej
        rw [pk_us, if_pos (by omega), show n + i - n = i by omega]
      · rw [pk_un ej, hc j]
        by_cases g : n ≤ j ∧ j < n + i
        · rw [if_pos g, if_pos (by omega)]
        · rw [if_neg g, if_neg (by omega)]
theorem put_loop (x : Int64) (m n : Nat) (hm : m ≤ 8) (hn : n + m ≤ 80) (ch0 : Nat → Int32) : ∀ (f i : Nat) (ch : Nat → Int32), i ≤ m → m < f + i → (∀ j, ch j = if n ≤ j ∧ j < n + i then nI (byX (nX x) (m - 1 - (j - n))) else ch0 j) → fX5_put_30 f ch (nI (n + i)) x (nI (m - i) + (-1)) = some (nI (n + m), (fun j => if n ≤ j ∧ j < n + m then nI (byX (nX x) (m - 1 - (j - n))) else ch0 j), nI (n + m)) := by
  intro f
  induction f with
  | zero => intro i ch g1 g2; omega
  | succ f ih =>
    intro i ch g1 g2 hc
    show fX5_put_30_b (fX5_put_30 f) ch (nI (n + i)) x (nI (m - i) + (-1)) = _
    unfold fX5_put_30_b
    by_cases e : m ≤ i
    · have e : i = m := by omega
      subst e
      rw [Nat.sub_self, if_pos (by decide)]
      refine congrArg some (Prod.ext rfl (Prod.ext (funext fun j => hc j) rfl))
    · rw [show m - i = (m - 1 - i) + 1 by omega, pk_m1, if_neg (nI_pos (by omega)), byteOf_z x _ (by omega), ob1_ev, chk_nI (by omega) (by omega), nm_ev, nm_ev, nm_ev, li_1, nI_add]
      rw [show m - 1 - i = m - (i + 1) by omega]
      refine ih (i + 1) _ (by omega) (by omega) fun j => ?_
      by_cases ej : j = n + i
      · subst ej
        rw [pk_us, if_pos (by omega), show m - 1 - (n + i - n) = m - (i + 1) by omega]
      · rw [pk_un ej, hc j]
        by_cases g : n ≤ j ∧ j < n + i
        · rw [if_pos g, if_pos (by omega)]
        · rw [if_neg g, if_neg (by omega)]
theorem put_c {p : Nat → Nat} {n : Nat} {ch mpad : Nat → Int32} (h : PD p n ch mpad) (x : Int64) : ∃ r p' n' ch' mpad', fX4_put ch (nI n) x = some (r, ch', nI n') ∧ fX5_put mpad (nI n) x = some (r, mpad', nI n') ∧ PD p' n' ch' mpad' := by
  obtain ⟨c, e1, e2, e3, e4⟩ := told_c x
  have hn := h.1
  unfold fX4_put fX5_put
  rw [e2, e3, ob1_ev, ob1_ev]
  by_cases h0 : c = 0
  · subst h0
    rw [if_pos (show nI 0 = 0 from rfl), if_pos rfl, if_neg (show ¬ (0 : Int32) ≤ -2 by decide)]
    exact ⟨-2, p, n, ch, mpad, rfl, rfl, h⟩
  · have cp := nI_le31 (a := n + c) (b := 80) (by omega) (by omega)
    rw [if_neg (nI_ne0 (by omega) (by omega)), if_neg h0, if_pos (nI_pos' (by omega)), nI_add, li_80]
    by_cases h80 : n + c ≤ 80
    · have a1 := app_loop x c n e1 h80 ch KF 0 ch (by omega) (by rw [KF_eq]; omega) (fun j => by rw [if_neg (by omega)])
      have a2 := put_loop x c n e1 h80 mpad KF 0 mpad (by omega) (by rw [KF_eq]; omega) (fun j => by rw [if_neg (by omega)])
      rw [Nat.sub_zero, Nat.add_zero, show nI c + (-1) = nI c - 1 by rw [show c = (c - 1) + 1 by omega, pk_m1, nI_pred]] at a2
      rw [Nat.add_zero] at a1
      rw [if_pos (cp.2 h80), if_pos (cp.2 h80), nm_ev, a2]
      unfold fX1_append
      rw [show (0 : Int32) = nI 0 from rfl, a1, ob2_ev]
      refine ⟨_, putP p n c (nX x), n + c, _, _, rfl, rfl, h80, fun j hj => ?_⟩
      unfold putP
      dsimp only
      by_cases g : n ≤ j ∧ j < n + c
      · rw [if_pos g, if_pos g, if_pos g]
        exact ⟨rfl, rfl, e4 _ (by omega)⟩
      · rw [if_neg g, if_neg g, if_neg g]
        exact h.2 j (by omega)
    · rw [if_neg (fun e => h80 (cp.1 e)), if_neg (fun e => h80 (cp.1 e))]
      exact ⟨-4, p, n, ch, mpad, rfl, rfl, h⟩
theorem wipe_c {p : Nat → Nat} {n : Nat} {ch mpad : Nat → Int32} (h : PD p n ch mpad) : ∃ r, fX4_wipe (nI n) = some (r, nI 0) ∧ fX5_wipe (nI n) = some (r, nI 0) ∧ PD p 0 ch mpad := ⟨nI n, rfl, rfl, by omega, fun j hj => by omega⟩
