/-! ===== a line comes, a row goes out, a tick, ticks: the reference over natural numbers ===== -/
def zadv (z : Nat → Nat) : Nat → Nat := if z 16 + 1 < z 4 then uN (uN z 16 (z 16 + 1)) 18 (z 18 + z 1) else uN (uN (uN z 16 0) 17 (z 17 + 1)) 18 (z 18 + z 1)
def zcome (z : Nat → Nat) : Nat → Nat :=
  if z 10 < z 3 then zadv (zqueue (uN z 9 (z 9 + 1)))
  else match (if z 5 = 1 then zff z 0 (z 10) else none) with
    | none => zadv (zmiss (uN z 9 (z 9 + 1)) (z 17) (z 16) 0)
    | some k => zadv (zqueue (zlose (uN z 9 (z 9 + 1)) k 1))
theorem adv_z (z : Nat → Nat) (h16 : z 16 < 100) (h4 : z 4 < 100) : fX5_comes_74 (fI z) = some (fI (zadv z)) := by
  unfold fX5_comes_74 zadv fX5_comes_105
  simp (disch := omega) only [nm_ev, ob0_ev, ob1_ev, ob2_ev, ob3_ev, ob4_ev, ob5_ev, ob6_ev, ob7_ev, upd_fI, fI_ap, nI_add, pk_mul, li_0, li_1, li_2, li_3, li_4, li_5, li_6, li_7, li_8, li_9, li_10, li_11, li_12, li_13, li_14, li_15, li_16, li_17, li_18, li_19, li_20, li_21, li_22, li_23, li_24, li_25, li_26, li_27, li_28, li_29, li_30, li_31, li_32, li_33, li_34, li_35, li_36, li_37, li_38, li_39, li_40, li_41, li_42, li_46, li_48, li_57, li_58, li_59, li_60, li_61, li_62, li_68, li_80, li_96, li_99, li_100, li_105, li_106, li_107, li_108, li_111, li_116, li_118, li_123, li_126, li_127, li_202, li_203, li_204, li_205, li_206, li_233, li_234, li_255, li_256, li_468, li_512, li_999, li_1023, li_1170, li_1404, li_99999, li_1073741824, lm_1, lm_2, lm_3, lm_4, lm_5, lm_6, uN_s, uN_n, nI_le31, nI_lt31, nI_eq32]
  by_cases h : z 16 + 1 < z 4
  · rw [if_pos h, if_pos h]
  · rw [if_neg h, if_neg h]
    refine congrArg some (congrArg fI (funext fun j => ?_))
    simp only [uN]
    repeat' split
    all_goals first | rfl | omega
theorem zff_uN (z : Nat → Nat) (k x : Nat) (hk : k < 42) : ∀ (m a : Nat), zff (uN z k x) a m = zff z a m := by
  intro m
  induction m with
  | zero => intro a; rfl
  | succ m ih =>
    intro a
    unfold zff
    rw [uN_n (by omega), ih]
theorem zlose_16 (z : Nat → Nat) (p w : Nat) : zlose z p w 16 = z 16 := by
  simp only [zlose, zleave, zlvF, uN_s]
  rw [if_neg (by omega), uN_n (by omega)]
  simp [zmiss, zmissF]
theorem zlose_10 (z : Nat → Nat) (p w : Nat) : zlose z p w 10 = z 10 - 1 := by
  simp only [zlose, zleave, zlvF, uN_s]
  rw [if_neg (by omega), zmiss_10]
theorem zlose_lo (z : Nat → Nat) (p w j : Nat) (h : j < 42) (h10 : j ≠ 10) (h12 : j ≠ 12) (h24 : j ≠ 24) : zlose z p w j = z j := by
  simp only [zlose, zleave, zlvF, uN_s]
  rw [if_neg (by omega), uN_n h10]
  simp only [zmiss, zmissF]
  rw [if_neg (by omega), if_neg (by omega), if_neg (by omega), if_neg (by omega), if_neg (by omega), if_neg h24, if_neg h12]
theorem zqueue_lo (z : Nat → Nat) (j : Nat) (h : j < 42) (h10 : j ≠ 10) : zqueue z j = z j := by
  simp only [zqueue]
  rw [if_neg h10, if_neg (by omega), if_neg (by omega), if_neg (by omega), if_neg (by omega)]
theorem comes_z (z : Nat → Nat) (hz : ∀ k, z k < 4294967296) (h3 : z 3 ≤ 16) (h10 : z 10 ≤ 16) (h30 : 1 ≤ z 3) (h310 : z 10 ≤ z 3) (h16 : z 16 ≤ 15) (h4 : z 4 ≤ 16) (hv : z (26 + z 16) ≤ 255) (h8 : z 8 ≤ 255) (h17 : z 17 ≤ 2000000) (h24 : z 24 ≤ 8) (h9 : z 9 ≤ 2000000) : fX5_comes (fI z) = some (fI (zcome z)) := by
  have hm : z 8 * z 17 ≤ 255 * 2000000 := Nat.mul_le_mul h8 h17
  have h5 := hz 5
  unfold fX5_comes
  simp (disch := omega) only [nm_ev, ob0_ev, ob1_ev, ob2_ev, ob3_ev, ob4_ev, ob5_ev, ob6_ev, ob7_ev, upd_fI, fI_ap, nI_add, pk_mul, li_0, li_1, li_2, li_3, li_4, li_5, li_6, li_7, li_8, li_9, li_10, li_11, li_12, li_13, li_14, li_15, li_16, li_17, li_18, li_19, li_20, li_21, li_22, li_23, li_24, li_25, li_26, li_27, li_28, li_29, li_30, li_31, li_32, li_33, li_34, li_35, li_36, li_37, li_38, li_39, li_40, li_41, li_42, li_46, li_48, li_57, li_58, li_59, li_60, li_61, li_62, li_68, li_80, li_96, li_99, li_100, li_105, li_106, li_107, li_108, li_111, li_116, li_118, li_123, li_126, li_127, li_202, li_203, li_204, li_205, li_206, li_233, li_234, li_255, li_256, li_468, li_512, li_999, li_1023, li_1170, li_1404, li_99999, li_1073741824, lm_1, lm_2, lm_3, lm_4, lm_5, lm_6, uN_s, uN_n, nI_le31, nI_lt31, nI_eq32]
  have hz1 : ∀ k, uN z 9 (z 9 + 1) k < 4294967296 := by
    intro k
    simp only [uN]
    split
    · omega
    · exact hz k
  have hf := fresh_z (uN z 9 (z 9 + 1)) hz1 (by rw [uN_n (by omega)]; omega)
  rw [zff_uN _ _ _ (by omega), uN_n (show 10 ≠ 9 by omega)] at hf
  have hq := queues_z (uN z 9 (z 9 + 1))
  simp (disch := omega) only [uN_s, uN_n] at hq
  have hmi := misses_z (uN z 9 (z 9 + 1)) (z 17) (z 16) 0 (by rw [uN_n (by omega)]; omega)
  unfold zcome
  by_cases h : z 10 < z 3
  · have hq := hq (by omega) (by omega) (by omega)
    rw [if_pos h]
    have ha := adv_z (zqueue (uN z 9 (z 9 + 1))) (by rw [zqueue_lo _ _ (by omega) (by omega), uN_n (by omega)]; omega) (by rw [zqueue_lo _ _ (by omega) (by omega), uN_n (by omega)]; omega)
    by_cases h51 : z 5 = 1
    · rw [if_pos h51, hf, ob1_ev, if_neg (by omega), hq, ob1_ev, ha]
    · rw [if_neg h51, if_neg (by omega), hq, ob1_ev, ha]
  · rw [if_neg h]
    have ha := adv_z (zmiss (uN z 9 (z 9 + 1)) (z 17) (z 16) 0) (by simp [zmiss, zmissF, uN]; omega) (by simp [zmiss, zmissF, uN]; omega)
    by_cases h51 : z 5 = 1
    · rw [if_pos h51, hf, ob1_ev, if_pos (by omega), if_pos h51]
      cases hk : zff z 0 (z 10) with
      | none =>
        rw [if_pos (by rfl), hmi, ob1_ev, ha]
      | some k =>
        obtain ⟨-, hk1, -, -⟩ := zff_lt _ _ _ _ hk
        have hne : ¬ oI (some k) = nI 4294967290 := by
          show ¬ nI k = nI 4294967290
          rw [nI_eq32 (by omega) (by omega)]
          omega
        rw [if_neg hne]
        have hl := loses_z (uN z 9 (z 9 + 1)) k 1 (by rw [uN_n (by omega)]; omega) (by rw [uN_n (by omega)]; omega) (by omega) (by rw [uN_n (by omega)]; omega)
        show ob1 (fX5_loses (fI (uN z 9 (z 9 + 1))) (nI k) (nI 1)) _ = _
        rw [hl, ob1_ev]
        have hq2 := queues_z (zlose (uN z 9 (z 9 + 1)) k 1) (by rw [zlose_10, uN_n (by omega)]; omega) (by rw [zlose_16, uN_n (by omega)]; omega) (by rw [zlose_16, uN_n (by omega), zlose_lo _ _ _ _ (by omega) (by omega) (by omega) (by omega), zlose_lo _ _ _ _ (by omega) (by omega) (by omega) (by omega), zlose_lo _ _ _ _ (by omega) (by omega) (by omega) (by omega), uN_n (by omega), uN_n (by omega), uN_n (by omega)]; omega)
        rw [hq2, ob1_ev]
        have e16 : zqueue (zlose (uN z 9 (z 9 + 1)) k 1) 16 = z 16 := by
          have e10 := zlose_10 (uN z 9 (z 9 + 1)) k 1
          rw [uN_n (by omega)] at e10
          simp only [zqueue]
          rw [e10, if_neg (by omega), if_neg (by omega), if_neg (by omega), if_neg (by omega), if_neg (by omega), zlose_16, uN_n (by omega)]
        have e4 : zqueue (zlose (uN z 9 (z 9 + 1)) k 1) 4 = z 4 := by
          have e10 := zlose_10 (uN z 9 (z 9 + 1)) k 1
          rw [uN_n (by omega)] at e10
          simp only [zqueue]
          rw [e10, if_neg (by omega), if_neg (by omega), if_neg (by omega), if_neg (by omega), if_neg (by omega), zlose_lo _ _ _ _ (by omega) (by omega) (by omega) (by omega), uN_n (by omega)]
        exact adv_z _ (by rw [e16]; omega) (by rw [e4]; omega)
    · rw [if_neg h51, if_pos (by omega), if_pos trivial, hmi, ob1_ev, ha, if_neg h51]
/-- some of the first n rows is empty; all of them are right -/
def jbare (z : Nat → Nat) : Nat → Bool
  | 0 => false
  | n + 1 => jbare z n || decide (z (106 + 3 * n + 1) = NON)
def jclean (z : Nat → Nat) : Nat → Bool
  | 0 => true
  | n + 1 => jclean z n && (decide (z (106 + 3 * n + 1) = z 107) && decide (z (106 + 3 * n + 2) = n / 2))
def zjudge (z : Nat → Nat) : Nat := if jbare z (2 * z 4) = true then 2 else if jclean z (2 * z 4) = true then 0 else 1
def bI (b : Bool) : Int32 := if b = true then nI 1 else nI 0
theorem judged_loop (z : Nat → Nat) (hz : ∀ k, z k < 4294967296) (h4 : z 4 ≤ 16) : ∀ (n r : Nat), r ≤ 2 * z 4 → 2 * z 4 < n + r → fX5_judged_6 n (fI z) (bI (jbare z r)) (bI (jclean z r)) (nI r) = some (nI (zjudge z)) := by
  intro n
  induction n with
  | zero => intro r h1 h2; omega
  | succ n ih =>
    intro r h1 h2
    show fX5_judged_6_b (fX5_judged_6 n) (fI z) (bI (jbare z r)) (bI (jclean z r)) (nI r) = _
    unfold fX5_judged_6_b
    by_cases hr : 2 * z 4 ≤ r
    · have e : r = 2 * z 4 := by omega
      subst e
      simp (disch := omega) only [nm_ev, ob0_ev, ob1_ev, ob2_ev, ob3_ev, ob4_ev, ob5_ev, ob6_ev, ob7_ev, upd_fI, fI_ap, nI_add, pk_mul, li_0, li_1, li_2, li_3, li_4, li_5, li_6, li_7, li_8, li_9, li_10, li_11, li_12, li_13, li_14, li_15, li_16, li_17, li_18, li_19, li_20, li_21, li_22, li_23, li_24, li_25, li_26, li_27, li_28, li_29, li_30, li_31, li_32, li_33, li_34, li_35, li_36, li_37, li_38, li_39, li_40, li_41, li_42, li_46, li_48, li_57, li_58, li_59, li_60, li_61, li_62, li_68, li_80, li_96, li_99, li_100, li_105, li_106, li_107, li_108, li_111, li_116, li_118, li_123, li_126, li_127, li_202, li_203, li_204, li_205, li_206, li_233, li_234, li_255, li_256, li_468, li_512, li_999, li_1023, li_1170, li_1404, li_99999, li_1073741824, lm_1, lm_2, lm_3, lm_4, lm_5, lm_6, nI_le31]
      rw [if_pos (Nat.le_refl _)]
      unfold zjudge
      cases jbare z (2 * z 4) <;> cases jclean z (2 * z 4) <;> rfl
    · have ih' := ih (r + 1) (by omega) (by omega)
      unfold jbare jclean at ih'
      have q1 := hz (106 + 3 * r + 1)
      have q2 := hz (106 + 3 * r + 2)
      have q3 := hz 107
      have b0 : bI false = nI 0 := rfl
      have b1 : bI true = nI 1 := rfl
      have n10 : ¬ nI 1 = nI 0 := by decide
      simp (disch := omega) only [nm_ev, ob0_ev, ob1_ev, ob2_ev, ob3_ev, ob4_ev, ob5_ev, ob6_ev, ob7_ev, upd_fI, fI_ap, nI_add, pk_mul, li_0, li_1, li_2, li_3, li_4, li_5, li_6, li_7, li_8, li_9, li_10, li_11, li_12, li_13, li_14, li_15, li_16, li_17, li_18, li_19, li_20, li_21, li_22, li_23, li_24, li_25, li_26, li_27, li_28, li_29, li_30, li_31, li_32, li_33, li_34, li_35, li_36, li_37, li_38, li_39, li_40, li_41, li_42, li_46, li_48, li_57, li_58, li_59, li_60, li_61, li_62, li_68, li_80, li_96, li_99, li_100, li_105, li_106, li_107, li_108, li_111, li_116, li_118, li_123, li_126, li_127, li_202, li_203, li_204, li_205, li_206, li_233, li_234, li_255, li_256, li_468, li_512, li_999, li_1023, li_1170, li_1404, li_99999, li_1073741824, lm_1, lm_2, lm_3, lm_4, lm_5, lm_6, nI_le31, chk_nI, nI_eq32, nI_div]
      rw [if_neg hr]
      cases hb : jbare z r <;> cases hc : jclean z r <;> by_cases c1 : z (106 + 3 * r + 1) = NON <;> by_cases c2 : z (106 + 3 * r + 1) = z 107 <;> by_cases c3 : z (106 + 3 * r + 2) = r / 2 <;> simp only [hb, hc, c1, c2, c3, decide_true, decide_false, Bool.or_true, Bool.or_false, Bool.and_true, Bool.and_false, Bool.true_and, Bool.false_and, b0, b1] at ih' ⊢ <;> first | (simpa [n10, NON, c1, c2, c3] using ih') | (simp_all [NON])
theorem judged_z (z : Nat → Nat) (hz : ∀ k, z k < 4294967296) (h4 : z 4 ≤ 16) : fX5_judged (fI z) = some (nI (zjudge z)) :=
  judged_loop z hz h4 KF 0 (by omega) (by rw [KF_eq]; omega)
