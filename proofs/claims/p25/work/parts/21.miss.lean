/-! ===== the reference's own methods over natural numbers: a missing line, a line that leaves, one that waits ===== -/
def NON : Nat := 4294967290
theorem KF_eq : KF = 5000 := rfl
def zmissF (z : Nat → Nat) (p l w k : Nat) : Nat → Nat := fun j => if j = 202 then p else if j = 203 then l else if j = 204 then w else if j = 205 then z 0 else if 206 ≤ j ∧ j ≤ k then z (j - 4) else if j = 24 then (if z 24 < 8 then z 24 + 1 else z 24) else if j = 12 then z 12 + 1 else z j
def zmiss (z : Nat → Nat) (p l w : Nat) : Nat → Nat := zmissF z p l w 233
theorem misses_loop (p l w : Nat) : ∀ (n k : Nat) (z : Nat → Nat), 205 ≤ k → k ≤ 233 → k < n + 205 → z 24 < 2147483648 → fX5_misses_5 n (fI z) (nI p) (nI l) (nI w) (nI k) = some (fI (zmissF z p l w k)) := by
  intro n
  induction n with
  | zero => intro k z h1 h2 h3; omega
  | succ n ih =>
    intro k z h1 h2 h3 h4
    show fX5_misses_5_b (fX5_misses_5 n) (fI z) (nI p) (nI l) (nI w) (nI k) = _
    unfold fX5_misses_5_b
    by_cases hk : k < 206
    · have hk2 : k = 205 := by omega
      subst hk2
      rw [if_pos (by rw [li_206, nI_lt31 (by omega) (by omega)]; omega)]
      simp (disch := omega) only [nm_ev, ob0_ev, ob1_ev, ob2_ev, ob3_ev, ob4_ev, ob5_ev, ob6_ev, ob7_ev, upd_fI, fI_ap, nI_add, pk_mul, li_0, li_1, li_2, li_3, li_4, li_5, li_6, li_7, li_8, li_9, li_10, li_11, li_12, li_13, li_14, li_15, li_16, li_17, li_18, li_19, li_20, li_21, li_22, li_23, li_24, li_25, li_26, li_27, li_28, li_29, li_30, li_31, li_32, li_33, li_34, li_35, li_36, li_37, li_38, li_39, li_40, li_41, li_42, li_46, li_48, li_57, li_58, li_59, li_60, li_61, li_62, li_68, li_80, li_96, li_99, li_100, li_105, li_106, li_107, li_108, li_111, li_116, li_118, li_123, li_126, li_127, li_202, li_203, li_204, li_205, li_206, li_233, li_234, li_255, li_256, li_468, li_512, li_999, li_1023, li_1170, li_1404, li_99999, li_1073741824, lm_1, lm_2, lm_3, lm_4, lm_5, lm_6, uN_s, uN_n, nI_le31, nI_lt31, nI_eq32]
      split
      · refine congrArg some (congrArg fI (funext fun j => ?_))
        simp only [uN, zmissF]
        repeat' split
        all_goals first | rfl | omega
      · refine congrArg some (congrArg fI (funext fun j => ?_))
        simp only [uN, zmissF]
        repeat' split
        all_goals first | rfl | omega
    · rw [if_neg (by rw [li_206, nI_lt31 (by omega) (by omega)]; omega)]
      rw [li_4, nI_sub (by omega), chk_nI (by omega) (by omega), chk_nI (by omega) (by omega)]
      simp only [nm_ev, fI_ap, upd_fI]
      have hk1 : nI k + -1 = nI (k - 1) := by
        have e := pk_m1 (k - 1)
        rw [show k - 1 + 1 = k by omega] at e
        exact e
      rw [hk1, ih (k - 1) _ (by omega) (by omega) (by omega) (by rw [uN_n (by omega)]; exact h4)]
      refine congrArg some (congrArg fI (funext fun j => ?_))
      simp only [uN, zmissF]
      by_cases hj : j = k
      · subst hj
        repeat' split
        all_goals first | rfl | omega
      · repeat' split
        all_goals first | rfl | omega
theorem misses_z (z : Nat → Nat) (p l w : Nat) (h : z 24 < 2147483648) : fX5_misses (fI z) (nI p) (nI l) (nI w) = some (fI (zmiss z p l w)) := by
  unfold fX5_misses
  rw [li_233]
  exact misses_loop p l w KF 233 z (by omega) (by omega) (by rw [KF_eq]; omega) h
def zlvF (z : Nat → Nat) (k : Nat) : Nat → Nat := fun j => if k ≤ j ∧ j < 42 + 4 * z 10 then z (j + 4) else z j
theorem leaves_loop : ∀ (n k : Nat) (z : Nat → Nat), 0 < n → 42 ≤ k → z 10 ≤ 16 → 42 + 4 * z 10 < n + k → k ≤ 200 → fX5_leaves_15 n (fI z) (nI k) = some (fI (zlvF z k)) := by
  intro n
  induction n with
  | zero =>
    intro k z h0 h1 h2 h3 h4
    omega
  | succ n ih =>
    intro k z h0 h1 h2 h3 h4
    show fX5_leaves_15_b (fX5_leaves_15 n) (fI z) (nI k) = _
    unfold fX5_leaves_15_b
    simp (disch := omega) only [nm_ev, ob0_ev, ob1_ev, ob2_ev, ob3_ev, ob4_ev, ob5_ev, ob6_ev, ob7_ev, upd_fI, fI_ap, nI_add, pk_mul, li_0, li_1, li_2, li_3, li_4, li_5, li_6, li_7, li_8, li_9, li_10, li_11, li_12, li_13, li_14, li_15, li_16, li_17, li_18, li_19, li_20, li_21, li_22, li_23, li_24, li_25, li_26, li_27, li_28, li_29, li_30, li_31, li_32, li_33, li_34, li_35, li_36, li_37, li_38, li_39, li_40, li_41, li_42, li_46, li_48, li_57, li_58, li_59, li_60, li_61, li_62, li_68, li_80, li_96, li_99, li_100, li_105, li_106, li_107, li_108, li_111, li_116, li_118, li_123, li_126, li_127, li_202, li_203, li_204, li_205, li_206, li_233, li_234, li_255, li_256, li_468, li_512, li_999, li_1023, li_1170, li_1404, li_99999, li_1073741824, lm_1, lm_2, lm_3, lm_4, lm_5, lm_6, nI_le31, nI_lt31, nI_eq32]
    by_cases hk : 42 + 4 * z 10 ≤ k
    · rw [if_pos hk]
      refine congrArg some (congrArg fI (funext fun j => ?_))
      simp only [zlvF]
      split
      · omega
      · rfl
    · rw [if_neg hk, chk_nI (by omega) (by omega), chk_nI (by omega) (by omega)]
      rw [ih (k + 1) _ (by omega) (by omega) (by rw [uN_n (by omega)]; exact h2) (by rw [uN_n (by omega)]; omega) (by omega)]
      refine congrArg some (congrArg fI (funext fun j => ?_))
      simp only [zlvF]
      rw [uN_n (show 10 ≠ k by omega)]
      by_cases hj : j = k
      · subst hj
        rw [if_neg (by omega), uN_s, if_pos (by omega)]
      · by_cases h5 : k + 1 ≤ j ∧ j < 42 + 4 * z 10
        · rw [if_pos h5, if_pos (by omega), uN_n (by omega)]
        · rw [if_neg h5, if_neg (by omega), uN_n hj]
def zleave (z : Nat → Nat) (p : Nat) : Nat → Nat := zlvF (uN z 10 (z 10 - 1)) (42 + 4 * p)
theorem leaves_z (z : Nat → Nat) (p : Nat) (h0 : 1 ≤ z 10) (h1 : z 10 ≤ 17) (hp : p ≤ 16) : fX5_leaves (fI z) (nI p) = some (fI (zleave z p)) := by
  unfold fX5_leaves
  rw [fI_ap, li_1, nI_sub h0]
  simp only [nm_ev, ob0_ev, ob1_ev, ob2_ev, ob3_ev, ob4_ev, ob5_ev, ob6_ev, ob7_ev, upd_fI, fI_ap, nI_add, pk_mul, li_0, li_1, li_2, li_3, li_4, li_5, li_6, li_7, li_8, li_9, li_10, li_11, li_12, li_13, li_14, li_15, li_16, li_17, li_18, li_19, li_20, li_21, li_22, li_23, li_24, li_25, li_26, li_27, li_28, li_29, li_30, li_31, li_32, li_33, li_34, li_35, li_36, li_37, li_38, li_39, li_40, li_41, li_42, li_46, li_48, li_57, li_58, li_59, li_60, li_61, li_62, li_68, li_80, li_96, li_99, li_100, li_105, li_106, li_107, li_108, li_111, li_116, li_118, li_123, li_126, li_127, li_202, li_203, li_204, li_205, li_206, li_233, li_234, li_255, li_256, li_468, li_512, li_999, li_1023, li_1170, li_1404, li_99999, li_1073741824, lm_1, lm_2, lm_3, lm_4, lm_5, lm_6]
  exact leaves_loop KF _ _ (by rw [KF_eq]; omega) (by omega) (by rw [uN_s]; omega) (by rw [uN_s, KF_eq]; omega) (by omega)
theorem of_z (z : Nat → Nat) (p w : Nat) (h : 42 + 4 * p + w < 234) : fX5_of (fI z) (nI p) (nI w) = some (nI (z (42 + 4 * p + w))) := by
  unfold fX5_of
  simp only [nm_ev, ob0_ev, ob1_ev, ob2_ev, ob3_ev, ob4_ev, ob5_ev, ob6_ev, ob7_ev, upd_fI, fI_ap, nI_add, pk_mul, li_0, li_1, li_2, li_3, li_4, li_5, li_6, li_7, li_8, li_9, li_10, li_11, li_12, li_13, li_14, li_15, li_16, li_17, li_18, li_19, li_20, li_21, li_22, li_23, li_24, li_25, li_26, li_27, li_28, li_29, li_30, li_31, li_32, li_33, li_34, li_35, li_36, li_37, li_38, li_39, li_40, li_41, li_42, li_46, li_48, li_57, li_58, li_59, li_60, li_61, li_62, li_68, li_80, li_96, li_99, li_100, li_105, li_106, li_107, li_108, li_111, li_116, li_118, li_123, li_126, li_127, li_202, li_203, li_204, li_205, li_206, li_233, li_234, li_255, li_256, li_468, li_512, li_999, li_1023, li_1170, li_1404, li_99999, li_1073741824, lm_1, lm_2, lm_3, lm_4, lm_5, lm_6]
  rw [chk_nI h (by omega)]
def zlose (z : Nat → Nat) (p w : Nat) : Nat → Nat := zleave (zmiss z (z (42 + 4 * p + 0)) (z (42 + 4 * p + 1)) w) p
theorem zmiss_10 (z : Nat → Nat) (p l w : Nat) : zmiss z p l w 10 = z 10 := by simp [zmiss, zmissF]
theorem loses_z (z : Nat → Nat) (p w : Nat) (h0 : 1 ≤ z 10) (h1 : z 10 ≤ 17) (hp : p ≤ 16) (h24 : z 24 < 2147483648) : fX5_loses (fI z) (nI p) (nI w) = some (fI (zlose z p w)) := by
  unfold fX5_loses
  rw [li_0, li_1, of_z z p 0 (by omega), ob1_ev, of_z z p 1 (by omega), ob1_ev, misses_z _ _ _ _ h24, ob1_ev, leaves_z _ _ (by rw [zmiss_10]; exact h0) (by rw [zmiss_10]; exact h1) hp, ob1_ev]
  rfl
def zqueue (z : Nat → Nat) : Nat → Nat := fun j => if j = 10 then z 10 + 1 else if j = 42 + 4 * z 10 then z 17 else if j = 42 + 4 * z 10 + 1 then z 16 else if j = 42 + 4 * z 10 + 2 then (z (26 + z 16) + z 8 * z 17) % 256 else if j = 42 + 4 * z 10 + 3 then 0 else z j
theorem queues_z (z : Nat → Nat) (h10 : z 10 ≤ 15) (h16 : z 16 ≤ 15) (hb : z (26 + z 16) + z 8 * z 17 < 2147483648) : fX5_queues (fI z) = some (fI (zqueue z)) := by
  unfold fX5_queues
  simp (disch := omega) only [nm_ev, ob0_ev, ob1_ev, ob2_ev, ob3_ev, ob4_ev, ob5_ev, ob6_ev, ob7_ev, upd_fI, fI_ap, nI_add, pk_mul, li_0, li_1, li_2, li_3, li_4, li_5, li_6, li_7, li_8, li_9, li_10, li_11, li_12, li_13, li_14, li_15, li_16, li_17, li_18, li_19, li_20, li_21, li_22, li_23, li_24, li_25, li_26, li_27, li_28, li_29, li_30, li_31, li_32, li_33, li_34, li_35, li_36, li_37, li_38, li_39, li_40, li_41, li_42, li_46, li_48, li_57, li_58, li_59, li_60, li_61, li_62, li_68, li_80, li_96, li_99, li_100, li_105, li_106, li_107, li_108, li_111, li_116, li_118, li_123, li_126, li_127, li_202, li_203, li_204, li_205, li_206, li_233, li_234, li_255, li_256, li_468, li_512, li_999, li_1023, li_1170, li_1404, li_99999, li_1073741824, lm_1, lm_2, lm_3, lm_4, lm_5, lm_6, uN_s, uN_n, chk_nI]
  rw [nI_rem (by omega) (by omega) (by omega)]
  simp (disch := omega) only [nm_ev, ob0_ev, ob1_ev, ob2_ev, ob3_ev, ob4_ev, ob5_ev, ob6_ev, ob7_ev, upd_fI, fI_ap, nI_add, pk_mul, li_0, li_1, li_2, li_3, li_4, li_5, li_6, li_7, li_8, li_9, li_10, li_11, li_12, li_13, li_14, li_15, li_16, li_17, li_18, li_19, li_20, li_21, li_22, li_23, li_24, li_25, li_26, li_27, li_28, li_29, li_30, li_31, li_32, li_33, li_34, li_35, li_36, li_37, li_38, li_39, li_40, li_41, li_42, li_46, li_48, li_57, li_58, li_59, li_60, li_61, li_62, li_68, li_80, li_96, li_99, li_100, li_105, li_106, li_107, li_108, li_111, li_116, li_118, li_123, li_126, li_127, li_202, li_203, li_204, li_205, li_206, li_233, li_234, li_255, li_256, li_468, li_512, li_999, li_1023, li_1170, li_1404, li_99999, li_1073741824, lm_1, lm_2, lm_3, lm_4, lm_5, lm_6, uN_s, uN_n, chk_nI]
  refine congrArg some (congrArg fI (funext fun j => ?_))
  simp only [uN, zqueue]
  repeat' split
  all_goals first | rfl | omega
/-- the first waiting line, from the place k on, that has not gone out -/
def zff (z : Nat → Nat) : Nat → Nat → Option Nat
  | _, 0 => none
  | k, n + 1 => if z (42 + 4 * k + 3) = 0 then some k else zff z (k + 1) n
def oI : Option Nat → Int32
  | none => -6
  | some k => nI k
theorem fresh_loop (z : Nat → Nat) (hz : ∀ k, z k < 4294967296) (h10 : z 10 ≤ 17) : ∀ (n k m : Nat), k + m = z 10 → m < n → fX5_firstFresh_2 n (fI z) (nI k) = some (oI (zff z k m)) := by
  intro n
  induction n with
  | zero => intro k m h1 h2; omega
  | succ n ih =>
    intro k m h1 h2
    show fX5_firstFresh_2_b (fX5_firstFresh_2 n) (fI z) (nI k) = _
    unfold fX5_firstFresh_2_b
    simp (disch := omega) only [nm_ev, ob0_ev, ob1_ev, ob2_ev, ob3_ev, ob4_ev, ob5_ev, ob6_ev, ob7_ev, upd_fI, fI_ap, nI_add, pk_mul, li_0, li_1, li_2, li_3, li_4, li_5, li_6, li_7, li_8, li_9, li_10, li_11, li_12, li_13, li_14, li_15, li_16, li_17, li_18, li_19, li_20, li_21, li_22, li_23, li_24, li_25, li_26, li_27, li_28, li_29, li_30, li_31, li_32, li_33, li_34, li_35, li_36, li_37, li_38, li_39, li_40, li_41, li_42, li_46, li_48, li_57, li_58, li_59, li_60, li_61, li_62, li_68, li_80, li_96, li_99, li_100, li_105, li_106, li_107, li_108, li_111, li_116, li_118, li_123, li_126, li_127, li_202, li_203, li_204, li_205, li_206, li_233, li_234, li_255, li_256, li_468, li_512, li_999, li_1023, li_1170, li_1404, li_99999, li_1073741824, lm_1, lm_2, lm_3, lm_4, lm_5, lm_6, nI_le31, nI_lt31, nI_eq32]
    cases m with
    | zero => rw [if_pos (by omega)]; rfl
    | succ m =>
      rw [if_neg (by omega), of_z z k 3 (by omega), ob1_ev]
      have h3 := hz (42 + 4 * k + 3)
      simp (disch := omega) only [nI_eq32]
      by_cases h : z (42 + 4 * k + 3) = 0
      · rw [if_pos h]
        simp only [zff, if_pos h]
        rfl
      · rw [if_neg h, ih (k + 1) m (by omega) (by omega)]
        simp only [zff, if_neg h]
theorem fresh_z (z : Nat → Nat) (hz : ∀ k, z k < 4294967296) (h10 : z 10 ≤ 17) : fX5_firstFresh (fI z) = some (oI (zff z 0 (z 10))) := by
  unfold fX5_firstFresh
  rw [li_0]
  exact fresh_loop z hz h10 KF 0 (z 10) (by omega) (by rw [KF_eq]; omega)
theorem zff_lt (z : Nat → Nat) : ∀ (m k j : Nat), zff z k m = some j → k ≤ j ∧ j < k + m ∧ z (42 + 4 * j + 3) = 0 ∧ ∀ i, k ≤ i → i < j → z (42 + 4 * i + 3) ≠ 0 := by
  intro m
  induction m with
  | zero => intro k j h; cases h
  | succ m ih =>
    intro k j h
    unfold zff at h
    split at h
    · rename_i h0
      cases h
      exact ⟨by omega, by omega, h0, fun i h1 h2 => by omega⟩
    · rename_i h0
      obtain ⟨h1, h2, h3, h4⟩ := ih (k + 1) j h
      refine ⟨by omega, by omega, h3, fun i h5 h6 => ?_⟩
      by_cases h7 : i = k
      · subst h7; exact h0
      · exact h4 i (by omega) h6
theorem zff_none (z : Nat → Nat) : ∀ (m k : Nat), zff z k m = none → ∀ i, k ≤ i → i < k + m → z (42 + 4 * i + 3) ≠ 0 := by
  intro m
  induction m with
  | zero => intro k _ i h1 h2; omega
  | succ m ih =>
    intro k h i h1 h2
    unfold zff at h
    split at h
    · cases h
    · rename_i h0
      by_cases h7 : i = k
      · subst h7; exact h0
      · exact ih (k + 1) h i (by omega) (by omega)
