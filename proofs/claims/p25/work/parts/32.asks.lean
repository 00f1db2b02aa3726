/-! ===== flush; what there is: both sides ===== -/
def zflush (z : Nat → Nat) : Nat → (Nat → Nat)
  | 0 => z
  | n + 1 => zflush (zlose z 0 2) n
theorem flushc_loop (X : Nat) (hX : X ≤ 16) : ∀ (n m : Nat) (z a q l : Nat → Nat), KQ z → z 10 = m → m ≤ X → m < n → RA a z → RQ q z → RM l z → (∀ j, q j < 4294967296) → ∃ a' q' l', fX2_skipAll_9 n (fI a) (fI q) (fI l) (nI X) (nI (X - m)) = some (nI X, fI a', fI q', fI l') ∧ RA a' (zflush z m) ∧ RQ q' (zflush z m) ∧ RM l' (zflush z m) ∧ ∀ j, q' j < 4294967296 := by
  intro n
  induction n with
  | zero => intro m z a q l _ _ _ h; omega
  | succ n ih =>
    intro m z a q l hK hm hmX hn hA hQ hL hq
    show ∃ a' q' l', fX2_skipAll_9_b (fX2_skipAll_9 n) (fI a) (fI q) (fI l) (nI X) (nI (X - m)) = _ ∧ _
    unfold fX2_skipAll_9_b
    obtain ⟨k1, k2, k3, k4, k5, k6, k7, k8, k9, k11⟩ := id hK
    cases m with
    | zero =>
      rw [if_pos (by rw [nI_le31 (by omega) (by omega)]; omega)]
      exact ⟨a, q, l, rfl, hA, hQ, hL, hq⟩
    | succ m =>
      rw [if_neg (by rw [nI_le31 (by omega) (by omega)]; omega)]
      have e0 : a 0 = z 0 := hA 0 (by omega)
      have e2 : a 2 = z 10 := hA 2 (by omega)
      have e4 : a 4 = z 12 := hA 4 (by omega)
      rw [li_0, li_2, lose_c _ _ _ _ _ (by omega) (by omega) (by omega), ob3_ev, nm_ev, li_1, nI_add, show X - (m + 1) + 1 = X - m by omega]
      have hL2 := hL.lose (by omega) 0 2
      have f0 : q (0 * 4 + 0) = z (42 + 4 * 0 + 0) := hQ 0 0 (by omega) (by omega)
      have f1 : q (0 * 4 + 1) = z (42 + 4 * 0 + 1) := hQ 0 1 (by omega) (by omega)
      rw [e0, e4, f0, f1]
      exact ih m _ _ _ _ (hK.lose (by omega) 0 2 (by omega) (by omega)) (by rw [zlose_10]; omega) (by omega) (by omega) (hA.lose 0 2) (hQ.lose k4 0 2 (by omega)) hL2 (rmF_lt hq 0)
theorem flushz_loop (past : Nat → Int32) (kept : Int32) (x : Int32) : ∀ (n m : Nat) (z : Nat → Nat), KQ z → z 10 = m → m < n → fX5_flush_12 n (fI z) past kept x = some (x, fI (zflush z m), past, kept) := by
  intro n
  induction n with
  | zero => intro m z _ _ h; omega
  | succ n ih =>
    intro m z hK hm hn
    show fX5_flush_12_b (fX5_flush_12 n) (fI z) past kept x = _
    unfold fX5_flush_12_b
    obtain ⟨k1, k2, k3, k4, k5, k6, k7, k8, k9, k11⟩ := id hK
    rw [fI_ap, hm, li_0, li_2]
    cases m with
    | zero => rw [if_pos (by rw [nI_le31 (by omega) (by omega)]; omega)]; rfl
    | succ m =>
      rw [if_neg (by rw [nI_le31 (by omega) (by omega)]; omega), loses_z z 0 2 (by omega) (by omega) (by omega) (by omega), ob1_ev]
      exact ih m _ (hK.lose (by omega) 0 2 (by omega) (by omega)) (by rw [zlose_10]; omega) (by omega)
theorem zflush_lo (j : Nat) (h : j < 42) (h10 : j ≠ 10) (h12 : j ≠ 12) (h24 : j ≠ 24) : ∀ (n : Nat) (z : Nat → Nat), zflush z n j = z j := by
  intro n
  induction n with
  | zero => intro z; rfl
  | succ n ih => intro z; exact (ih _).trans (zlose_lo z 0 2 j h h10 h12 h24)
theorem zflush_sh (j : Nat) (h1 : 106 ≤ j) (h2 : j < 202) : ∀ (n : Nat) (z : Nat → Nat), z 10 ≤ 17 → zflush z n j = z j := by
  intro n
  induction n with
  | zero => intro z _; rfl
  | succ n ih => intro z h; exact (ih _ (by rw [zlose_10]; omega)).trans (zlose_sh z 0 2 j h1 h2 h)
theorem ZI.flush {T B e1 e2 : Nat} (hT : T ≤ 150000) (he : e1 ≤ 1) : ∀ (n : Nat) (z : Nat → Nat), ZI T B e1 e2 0 z → z 10 = n → ZI T B e1 e2 0 (zflush z n) := by
  intro n
  induction n with
  | zero => intro z h _; exact h
  | succ n ih =>
    intro z h hn
    exact ih _ (h.lose hT he 0 2 (by omega) (by omega)) (by rw [zlose_10]; omega)
theorem flush_op (a v q c l : Nat → Nat) (t : Nat) (z : Nat → Nat) (hR : RZ a v q c l t z) (hq : ∀ j, q j < 4294967296) (hK : KQ z) : ∃ a' q' l', fX2_skipAll (fI a) (fI q) (fI l) = some (nI (z 10), fI a', fI q', fI l') ∧ RZ a' v q' c l' t (zflush z (z 10)) ∧ (∀ j, q' j < 4294967296) ∧ ∀ past kept, fX5_flush (fI z) past kept = ob2 (fX5_records (fI z) past kept) fun p k => some (nI (z 10), fI (zflush z (z 10)), p, k) := by
  obtain ⟨hA, hV, hQ, hC, hL, hT⟩ := id hR
  obtain ⟨k1, k2, k3, k4, k5, k6, k7, k8, k9, k11⟩ := id hK
  have e2 : a 2 = z 10 := hA 2 (by omega)
  obtain ⟨a', q', l', g1, g2, g3, g4, g5⟩ := flushc_loop (z 10) k4 KF (z 10) z a q l hK rfl (Nat.le_refl _) (by rw [KF_eq]; omega) hA hQ hL hq
  have lo : ∀ j, j < 42 → j ≠ 10 → j ≠ 12 → j ≠ 24 → zflush z (z 10) j = z j := fun j h1 h2 h3 h4 => zflush_lo j h1 h2 h3 h4 _ _
  refine ⟨a', q', l', ?_, ⟨g2, hV.ext fun j h1 h2 => lo j h2 (by omega) (by omega) (by omega), g3, hC.ext fun j h1 h2 => zflush_sh j h1 h2 _ _ (by omega), g4, hT.trans (lo 25 (by omega) (by omega) (by omega) (by omega)).symm⟩, g5, fun past kept => ?_⟩
  · unfold fX2_skipAll
    rw [nm_ev, fI_ap, e2]
    rw [Nat.sub_self] at g1
    exact g1
  · unfold fX5_flush
    refine congrArg (ob2 (fX5_records (fI z) past kept)) (funext fun p => funext fun k => ?_)
    rw [nm_ev, fI_ap, flushz_loop p k _ KF (z 10) z hK rfl (by rw [KF_eq]; omega)]
/-- an index -/
theorem pred_lt (N : Nat) (hN : N < 1000000000) (x : Int32) (h : nI N ≤ x) : nI N - nI 1 < x := by
  rw [Int32.le_iff_toInt_le] at h
  rw [Int32.lt_iff_toInt_lt, pk_sub_toInt (by omega) (by omega)]
  rw [nI_toInt (by omega)] at h
  omega
theorem idx (x : Int32) (N : Nat) (hN : N < 1000000000) : (x < 0 ∧ fX4_isWithin x 0 (nI N - 1) = some 0) ∨ (¬ x < 0 ∧ ¬ x < nI N ∧ fX4_isWithin x 0 (nI N - 1) = some 0) ∨ ∃ j, j < N ∧ x = nI j ∧ fX4_isWithin x 0 (nI N - 1) = some 1 := by
  rcases pk_ix x (n := N) (by omega) with h | h | ⟨j, h1, rfl⟩
  · exact Or.inl ⟨h, within_lo h⟩
  · by_cases h0 : x < 0
    · exact Or.inl ⟨h0, within_lo h0⟩
    · refine Or.inr (Or.inl ⟨h0, ?_, within_hi (pred_lt N hN x h)⟩)
      intro g
      rw [Int32.le_iff_toInt_le] at h
      rw [Int32.lt_iff_toInt_lt] at g
      omega
  · refine Or.inr (Or.inr ⟨j, h1, rfl, ?_⟩)
    rw [li_1, nI_sub (by omega)]
    exact within_in (nI_pos (by omega)) (fun g => by have := (nI_lt31 (by omega) (by omega)).1 g; omega)
theorem waiting_c (a q z : Nat → Nat) (hA : RA a z) (hQ : RQ q z) (h10 : z 10 ≤ 16) (x1 x2 : Int32) : ∃ r, fX4_waiting (fI a) (fI q) x1 x2 = some r ∧ fX5_waiting (fI z) x1 x2 = some r := by
  unfold fX4_waiting fX5_waiting
  rw [in_eq, in_eq, fI_ap, fI_ap, hA 2 (by omega), show z (mu 2) = z 10 from rfl]
  rcases idx x1 (z 10) (by omega) with ⟨h1, h2⟩ | ⟨h0, h1, h2⟩ | ⟨j, hj, rfl, h2⟩
  · rw [if_pos h1, h2]
    exact ⟨-1, rfl, rfl⟩
  · rw [if_neg h0, if_neg h1, h2]
    exact ⟨-1, rfl, rfl⟩
  · rw [if_neg (nI_pos (by omega)), if_pos ((nI_lt31 (by omega) (by omega)).2 hj), h2, ob1_ev, if_neg (by decide), li_0, li_3]
    rcases in_nI x2 0 3 (by omega) (by omega) with h | ⟨w, rfl, -, hw, h⟩
    · rw [h]
      exact ⟨-2, rfl, rfl⟩
    · rw [h]
      simp only [ob1_ev]
      have h4 := tb_read 4 68 (by omega) q j w (by omega)
      rw [← li_4] at h4
      rw [if_neg (by decide), if_neg (by decide), h4, ob1_ev, of_z z j w (by omega), ob1_ev, hQ j w hj (by omega)]
      exact ⟨_, rfl, rfl⟩
theorem row_c (a c z : Nat → Nat) (hA : RA a z) (hC : RC c z) (h4 : z 4 ≤ 16) (x1 x2 : Int32) : ∃ r, fX4_row (fI a) (fI c) x1 x2 = some r ∧ fX5_row (fI z) x1 x2 = some r := by
  unfold fX4_row fX5_row
  rw [in_eq, in_eq, rows_c, ob1_ev, fI_ap, hA 19 (by omega), show z (mu 19) = z 4 from rfl, show (2 : Int32) * nI (z 4) = nI (2 * z 4) by rw [li_2, pk_mul]]
  rcases idx x1 (2 * z 4) (by omega) with ⟨h1, h2⟩ | ⟨h0, h1, h2⟩ | ⟨j, hj, rfl, h2⟩
  · rw [if_pos h1, h2]
    exact ⟨-1, rfl, rfl⟩
  · rw [if_neg h0, if_neg h1, h2]
    exact ⟨-1, rfl, rfl⟩
  · rw [if_neg (nI_pos (by omega)), if_pos ((nI_lt31 (by omega) (by omega)).2 hj), h2, ob1_ev, if_neg (by decide), li_0, li_2]
    rcases in_nI x2 0 2 (by omega) (by omega) with h | ⟨w, rfl, -, hw, h⟩
    · rw [h]
      exact ⟨-2, rfl, rfl⟩
    · rw [h]
      simp only [ob1_ev]
      have h3 := tb_read 3 96 (by omega) c j w (by omega)
      rw [← li_3] at h3
      rw [if_neg (by decide), if_neg (by decide), h3, ob1_ev, li_3, pk_mul, li_106, nI_add, nI_add, chk_nI (by omega) (by omega), fI_ap, hC (j * 3 + w) (by omega), show 106 + (j * 3 + w) = 106 + 3 * j + w by omega]
      exact ⟨_, rfl, rfl⟩
theorem miss_c (a l z : Nat → Nat) (hA : RA a z) (hL : RM l z) (h12 : z 12 < 1000000000) (h24 : z 24 = if z 12 < 8 then z 12 else 8) (x1 x2 : Int32) : ∃ r, fX4_ofMissing (fI a) (fI l) x1 x2 = some r ∧ fX5_ofMissing (fI z) x1 x2 = some r := by
  unfold fX4_ofMissing fX5_ofMissing
  rw [in_eq, in_eq, fI_ap, fI_ap, hA 4 (by omega), show z (mu 4) = z 12 from rfl, li_8, min_ev (by omega) (by omega)]
  have e24 : minN (z 12) 8 = z 24 := h24.symm
  have b24 : z 24 ≤ 8 ∧ z 24 ≤ z 12 := by rw [h24]; split <;> omega
  rw [e24]
  rcases idx x1 (z 24) (by omega) with ⟨h1, h2⟩ | ⟨h0, h1, h2⟩ | ⟨j, hj, rfl, h2⟩
  · rw [if_pos h1, h2]
    exact ⟨-1, rfl, rfl⟩
  · rw [if_neg h0, if_neg h1, h2]
    exact ⟨-1, rfl, rfl⟩
  · rw [if_neg (nI_pos (by omega)), if_pos ((nI_lt31 (by omega) (by omega)).2 hj), h2, ob1_ev, if_neg (by decide), li_0, li_3]
    rcases in_nI x2 0 3 (by omega) (by omega) with h | ⟨w, rfl, -, hw, h⟩
    · rw [h]
      exact ⟨-2, rfl, rfl⟩
    · rw [h]
      simp only [ob1_ev]
      have m8 : (z 12 - 1 - j) % 8 < 8 := Nat.mod_lt _ (by omega)
      have h4 := tb_read 4 32 (by omega) l ((z 12 - 1 - j) % 8) w (by omega)
      rw [← li_4] at h4
      rw [if_neg (by decide), if_neg (by decide), li_1, nI_sub (show 1 ≤ z 12 by omega), nI_sub (show j ≤ z 12 - 1 by omega), nI_rem (by omega) (by omega) (by omega), h4, ob1_ev, li_4, pk_mul, li_202, nI_add, nI_add, chk_nI (by omega) (by omega), fI_ap, hL j w (by omega) (by omega) (by omega)]
      exact ⟨_, rfl, rfl⟩
theorem within_n (n lo hi : Nat) (h1 : lo ≤ n) (h2 : n ≤ hi) (h3 : hi < 2147483648) : fX4_isWithin (nI n) (nI lo) (nI hi) = some 1 := within_in (fun g => by have := (nI_lt31 (by omega) (by omega)).1 g; omega) (fun g => by have := (nI_lt31 (by omega) (by omega)).1 g; omega)
theorem count_c (a z : Nat → Nat) (hA : RA a z) (pl hs : Int32) (x : Int32) : ∃ r, fX4_count (fI a) pl hs x = some r ∧ fX5_count (fI z) hs pl x = some r := by
  unfold fX4_count fX5_count
  rw [in_eq]
  by_cases e24 : x = 24
  · subst e24
    rw [if_pos rfl, within_in (by decide) (by decide), ob1_ev, if_neg (by decide), if_pos (by decide), if_pos (by decide), if_pos rfl]
    exact ⟨_, rfl, rfl⟩
  · rw [if_neg e24]
    by_cases e25 : x = 25
    · subst e25
      rw [if_pos rfl, within_in (by decide) (by decide), ob1_ev, if_neg (by decide), if_pos (by decide), if_pos (by decide), if_neg (by decide)]
      exact ⟨_, rfl, rfl⟩
    · rw [if_neg e25, li_0, li_25, li_23]
      rcases in_nI x 0 25 (by omega) (by omega) with h | ⟨n, rfl, -, hn, h⟩
      · have h2 : fX4_isWithin x (nI 0) (nI 23) = some 0 := by
          rcases in_nI x 0 23 (by omega) (by omega) with h2 | ⟨m, rfl, -, hm, h2⟩
          · exact h2
          · rw [within_n m 0 25 (by omega) (by omega) (by omega)] at h
            exact absurd h (by decide)
        rw [h, h2]
        exact ⟨-2, rfl, rfl⟩
      · have n24 : n ≠ 24 := fun g => e24 (by rw [g]; rfl)
        have n25 : n ≠ 25 := fun g => e25 (by rw [g]; rfl)
        rw [h, within_n n 0 23 (by omega) (by omega) (by omega), ob1_ev, ob1_ev, if_neg (by decide), if_neg (by decide), chk_nI (by omega) (by omega), fI_ap, hA n (by omega), li_16, li_24, li_1, li_9]
        have c16 := nI_le31 (a := 16) (b := n) (by omega) (by omega)
        have c24 := nI_le31 (a := 24) (b := n) (by omega) (by omega)
        have c0 := nI_eq32 (a := n) (b := 0) (by omega) (by omega)
        by_cases h16 : 16 ≤ n
        · rw [if_pos (c16.2 h16), if_neg (fun g => by have := c24.1 g; omega), nI_add, nI_sub (by omega), chk_nI (by omega) (by omega), fI_ap]
          refine ⟨_, rfl, ?_⟩
          rw [show mu n = 1 + n - 16 by unfold mu; rw [if_neg (by omega), if_neg (by omega)]; omega]
        · rw [if_neg (fun g => h16 (c16.1 g))]
          by_cases h0 : n = 0
          · rw [if_pos (c0.2 h0), fI_ap]
            refine ⟨_, rfl, ?_⟩
            rw [h0]; rfl
          · rw [if_neg (fun g => h0 (c0.1 g)), nI_add, nI_sub (by omega), chk_nI (by omega) (by omega), fI_ap]
            refine ⟨_, rfl, ?_⟩
            rw [show mu n = 9 + n - 1 by unfold mu; rw [if_neg (by omega), if_pos (by omega)]; omega]
theorem shown_loop (a c z : Nat → Nat) (hz : ∀ k, z k < 4294967296) (hC : RC c z) (h4 : z 4 ≤ 16) : ∀ (n k : Nat), k ≤ 2 * z 4 → 2 * z 4 < n + k → ∃ r, fX4_shown_10 n (fI a) (fI c) (nI (2 * z 4)) (nI k) = some r ∧ fX5_shown_2 n (fI z) (nI k) = some r := by
  intro n
  induction n with
  | zero => intro k h1 h2; omega
  | succ n ih =>
    intro k h1 h2
    show ∃ r, fX4_shown_10_b (fX4_shown_10 n) (fI a) (fI c) (nI (2 * z 4)) (nI k) = some r ∧ fX5_shown_2_b (fX5_shown_2 n) (fI z) (nI k) = some r
    unfold fX4_shown_10_b fX5_shown_2_b
    rw [fI_ap, show (2 : Int32) * nI (z 4) = nI (2 * z 4) by rw [li_2, pk_mul]]
    have cl := nI_le31 (a := 2 * z 4) (b := k) (by omega) (by omega)
    by_cases hk : 2 * z 4 ≤ k
    · rw [if_pos (cl.2 hk), if_pos (cl.2 hk)]
      exact ⟨_, rfl, rfl⟩
    · have h3 := tb_read 3 96 (by omega) c k 1 (by omega)
      rw [← li_3, ← li_1] at h3
      rw [if_neg (fun g => hk (cl.1 g)), if_neg (fun g => hk (cl.1 g)), h3, ob1_ev, li_3, pk_mul, li_106, li_1, nI_add, nI_add, nI_add, chk_nI (by omega) (by omega), fI_ap, hC (k * 3 + 1) (by omega), show 106 + (k * 3 + 1) = 106 + 3 * k + 1 by omega, nm_ev, nm_ev]
      by_cases he : nI (z (106 + 3 * k + 1)) = -6
      · rw [if_pos he, if_pos he]
        exact ⟨_, rfl, rfl⟩
      · rw [if_neg he, if_neg he]
        exact ih (k + 1) (by omega) (by omega)
theorem shown_c (a c z : Nat → Nat) (hA : RA a z) (hz : ∀ k, z k < 4294967296) (hC : RC c z) (h4 : z 4 ≤ 16) : ∃ r, fX4_shown (fI a) (fI c) = some r ∧ fX5_shown (fI z) = some r := by
  unfold fX4_shown fX5_shown
  rw [rows_c, ob1_ev, hA 19 (by omega), show z (mu 19) = z 4 from rfl]
  exact shown_loop a c z hz hC h4 KF 0 (by omega) (by rw [KF_eq]; omega)
