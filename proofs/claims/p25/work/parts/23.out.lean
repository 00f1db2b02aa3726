/-! ===== a row goes out, a tick, ticks ===== -/
def zend (z : Nat → Nat) : Nat → Nat := uN z 19 (z 19 + z 2)
def zrow (z : Nat → Nat) : Nat → Nat :=
  if z 15 + 1 < 2 * z 4 then zend (uN z 15 (z 15 + 1))
  else zend (uN (uN (uN z 15 0) 23 (zjudge (uN z 15 0))) (20 + zjudge (uN z 15 0)) (z (20 + zjudge (uN z 15 0)) + 1))
theorem zjudge_le (z : Nat → Nat) : zjudge z ≤ 2 := by
  unfold zjudge
  split
  · omega
  · split <;> omega
theorem jbare_uN (z : Nat → Nat) (k x : Nat) (hk : k < 106) : ∀ n, jbare (uN z k x) n = jbare z n := by
  intro n
  induction n with
  | zero => rfl
  | succ n ih =>
    unfold jbare
    rw [ih, uN_n (by omega)]
theorem jclean_uN (z : Nat → Nat) (k x : Nat) (hk : k < 106) : ∀ n, jclean (uN z k x) n = jclean z n := by
  intro n
  induction n with
  | zero => rfl
  | succ n ih =>
    unfold jclean
    rw [ih, uN_n (by omega), uN_n (by omega), uN_n (by omega)]
theorem row_z (z : Nat → Nat) (hz : ∀ k, z k < 4294967296) (h4 : z 4 ≤ 16) (h15 : z 15 < 2 * z 4) : fX5_goesOut_185 (fI z) = some (fI (zrow z)) := by
  unfold fX5_goesOut_185 fX5_goesOut_231 zrow
  simp (disch := omega) only [nm_ev, ob0_ev, ob1_ev, ob2_ev, ob3_ev, ob4_ev, ob5_ev, ob6_ev, ob7_ev, upd_fI, fI_ap, nI_add, pk_mul, li_0, li_1, li_2, li_3, li_4, li_5, li_6, li_7, li_8, li_9, li_10, li_11, li_12, li_13, li_14, li_15, li_16, li_17, li_18, li_19, li_20, li_21, li_22, li_23, li_24, li_25, li_26, li_27, li_28, li_29, li_30, li_31, li_32, li_33, li_34, li_35, li_36, li_37, li_38, li_39, li_40, li_41, li_42, li_46, li_48, li_57, li_58, li_59, li_60, li_61, li_62, li_68, li_80, li_96, li_99, li_100, li_105, li_106, li_107, li_108, li_111, li_116, li_118, li_123, li_126, li_127, li_202, li_203, li_204, li_205, li_206, li_233, li_234, li_255, li_256, li_468, li_512, li_999, li_1023, li_1170, li_1404, li_99999, li_1073741824, lm_1, lm_2, lm_3, lm_4, lm_5, lm_6, uN_s, uN_n, nI_le31, nI_lt31, nI_eq32]
  by_cases h : z 15 + 1 < 2 * z 4
  · rw [if_pos h, if_pos h]
    refine congrArg some (congrArg fI (funext fun j => ?_))
    simp only [uN, zend]
    repeat' split
    all_goals first | rfl | omega
  · rw [if_neg h, if_neg h]
    have e : uN (uN z 15 (z 15 + 1)) 15 0 = uN z 15 0 := by
      funext j
      simp only [uN]
      split <;> rfl
    have hz1 : ∀ k, uN z 15 0 k < 4294967296 := by
      intro k
      simp only [uN]
      split
      · omega
      · exact hz k
    rw [e, judged_z (uN z 15 0) hz1 (by rw [uN_n (by omega)]; exact h4), ob1_ev]
    have hj := zjudge_le (uN z 15 0)
    generalize zjudge (uN z 15 0) = g at hj ⊢
    simp (disch := omega) only [nm_ev, ob0_ev, ob1_ev, ob2_ev, ob3_ev, ob4_ev, ob5_ev, ob6_ev, ob7_ev, upd_fI, fI_ap, nI_add, pk_mul, li_0, li_1, li_2, li_3, li_4, li_5, li_6, li_7, li_8, li_9, li_10, li_11, li_12, li_13, li_14, li_15, li_16, li_17, li_18, li_19, li_20, li_21, li_22, li_23, li_24, li_25, li_26, li_27, li_28, li_29, li_30, li_31, li_32, li_33, li_34, li_35, li_36, li_37, li_38, li_39, li_40, li_41, li_42, li_46, li_48, li_57, li_58, li_59, li_60, li_61, li_62, li_68, li_80, li_96, li_99, li_100, li_105, li_106, li_107, li_108, li_111, li_116, li_118, li_123, li_126, li_127, li_202, li_203, li_204, li_205, li_206, li_233, li_234, li_255, li_256, li_468, li_512, li_999, li_1023, li_1170, li_1404, li_99999, li_1073741824, lm_1, lm_2, lm_3, lm_4, lm_5, lm_6, uN_s, uN_n, chk_nI]
    refine congrArg some (congrArg fI (funext fun j => ?_))
    simp only [uN, zend]
    repeat' split
    all_goals first | rfl | omega
def zemptyW (z : Nat → Nat) (r w : Nat) : Nat → Nat := uN (uN (uN (uN (uN z (106 + 3 * r) (z 7)) (106 + 3 * r + 1) w) (106 + 3 * r + 2) w) 13 (z 13 + 1)) 14 (z 14 + 1)
def zempty (z : Nat → Nat) (r : Nat) : Nat → Nat := zemptyW z r NON
def zfirst (z : Nat → Nat) (r : Nat) : Nat → Nat := uN (uN (uN (uN (uN z (106 + 3 * r) (z 44)) (106 + 3 * r + 1) (z 42)) (106 + 3 * r + 2) (z 43)) 13 (z 13 + 1)) 45 (z 45 + 1)
def zshow (z : Nat → Nat) (r : Nat) : Nat → Nat :=
  if z 10 = 0 then zrow (zempty z r)
  else if z 45 + 1 = 2 then zrow (zleave (uN (zfirst z r) 11 (z 11 + 1)) 0) else zrow (zfirst z r)
theorem lt_uN {z : Nat → Nat} (hz : ∀ k, z k < 4294967296) (a x : Nat) (hx : x < 4294967296) : ∀ k, uN z a x k < 4294967296 := by
  intro k
  simp only [uN]
  split
  · exact hx
  · exact hz k
theorem zlvF_lt {z : Nat → Nat} (hz : ∀ k, z k < 4294967296) (a : Nat) : ∀ k, zlvF z a k < 4294967296 := by
  intro k
  simp only [zlvF]
  split
  · exact hz _
  · exact hz k
theorem zempty_lt {z : Nat → Nat} (hz : ∀ k, z k < 4294967296) (r w : Nat) (hw : w < 4294967296) (h13 : z 13 ≤ 2000000) (h14 : z 14 ≤ 2000000) : ∀ k, zemptyW z r w k < 4294967296 := by
  unfold zemptyW
  exact lt_uN (lt_uN (lt_uN (lt_uN (lt_uN hz _ _ (hz 7)) _ _ hw) _ _ hw) _ _ (by omega)) _ _ (by omega)
theorem zempty_lo (z : Nat → Nat) (r w j : Nat) (h : j < 106) (h13 : j ≠ 13) (h14 : j ≠ 14) : zemptyW z r w j = z j := by
  simp (disch := omega) only [zemptyW, uN_s, uN_n]
theorem lm6N : -nI 6 = nI NON := by unfold NON; decide
theorem show_0 (z : Nat → Nat) (hz : ∀ k, z k < 4294967296) (r : Nat) (hr : r < 32) (h4 : z 4 ≤ 16) (h15 : z 15 < 2 * z 4) (h10 : z 10 ≤ 16) (h45 : z 10 ≠ 0 → z 45 ≤ 1) (h13 : z 13 ≤ 2000000) (h14 : z 14 ≤ 2000000) (h11 : z 11 ≤ 2000000) (h : z 10 = 0) : fX5_goesOut_40 (fI z) (nI r) = some (fI (zshow z r)) := by
  unfold fX5_goesOut_40 zshow
  have hc : fI z 10 ≤ 0 := by
    rw [fI_ap, h]
    decide
  rw [if_pos hc, if_pos h]
  rw [li_106, li_3, li_1, li_2, li_6, lm6N]
  have hw : NON < 4294967296 := by unfold NON; omega
  unfold zempty
  revert hw
  generalize NON = w
  intro hw
  rw [pk_mul, nI_add, nI_add, nI_add]
  rw [chk_nI (by omega) (by omega), fI_ap, upd_fI, nm_ev]
  rw [chk_nI (by omega) (by omega), upd_fI, nm_ev]
  rw [chk_nI (by omega) (by omega), upd_fI, nm_ev]
  rw [fI_ap, nI_add, upd_fI, nm_ev]
  rw [fI_ap, nI_add, upd_fI, nm_ev]
  rw [uN_n (show 14 ≠ 13 by omega), uN_n (show 14 ≠ 106 + 3 * r + 2 by omega), uN_n (show 14 ≠ 106 + 3 * r + 1 by omega), uN_n (show 14 ≠ 106 + 3 * r by omega), uN_n (show 13 ≠ 106 + 3 * r + 2 by omega), uN_n (show 13 ≠ 106 + 3 * r + 1 by omega), uN_n (show 13 ≠ 106 + 3 * r by omega)]
  exact row_z (zemptyW z r w) (zempty_lt hz r w hw h13 h14) (by rw [zempty_lo _ _ _ _ (by omega) (by omega) (by omega)]; exact h4) (by rw [zempty_lo _ _ _ _ (by omega) (by omega) (by omega), zempty_lo _ _ _ _ (by omega) (by omega) (by omega)]; exact h15)
theorem show_1 (z : Nat → Nat) (hz : ∀ k, z k < 4294967296) (r : Nat) (hr : r < 32) (h4 : z 4 ≤ 16) (h15 : z 15 < 2 * z 4) (h10 : z 10 ≤ 16) (h45 : z 10 ≠ 0 → z 45 ≤ 1) (h13 : z 13 ≤ 2000000) (h14 : z 14 ≤ 2000000) (h11 : z 11 ≤ 2000000) (h : ¬ z 10 = 0) : fX5_goesOut_40 (fI z) (nI r) = some (fI (zshow z r)) := by
  unfold fX5_goesOut_40 zshow
  have h45 := h45 h
  rw [if_neg (by rw [fI_ap, li_0, nI_le31 (by omega) (by omega)]; omega), if_neg h]
  rw [li_0, li_2, li_1]
  rw [of_z z 0 2 (by omega), ob1_ev]
  simp (disch := omega) only [nm_ev, ob0_ev, ob1_ev, ob2_ev, ob3_ev, ob4_ev, ob5_ev, ob6_ev, ob7_ev, upd_fI, fI_ap, nI_add, pk_mul, li_0, li_1, li_2, li_3, li_4, li_5, li_6, li_7, li_8, li_9, li_10, li_11, li_12, li_13, li_14, li_15, li_16, li_17, li_18, li_19, li_20, li_21, li_22, li_23, li_24, li_25, li_26, li_27, li_28, li_29, li_30, li_31, li_32, li_33, li_34, li_35, li_36, li_37, li_38, li_39, li_40, li_41, li_42, li_46, li_48, li_57, li_58, li_59, li_60, li_61, li_62, li_68, li_80, li_96, li_99, li_100, li_105, li_106, li_107, li_108, li_111, li_116, li_118, li_123, li_126, li_127, li_202, li_203, li_204, li_205, li_206, li_233, li_234, li_255, li_256, li_468, li_512, li_999, li_1023, li_1170, li_1404, li_99999, li_1073741824, lm_1, lm_2, lm_3, lm_4, lm_5, lm_6, chk_nI]
  rw [of_z _ 0 0 (by omega), ob1_ev]
  simp (disch := omega) only [nm_ev, ob0_ev, ob1_ev, ob2_ev, ob3_ev, ob4_ev, ob5_ev, ob6_ev, ob7_ev, upd_fI, fI_ap, nI_add, pk_mul, li_0, li_1, li_2, li_3, li_4, li_5, li_6, li_7, li_8, li_9, li_10, li_11, li_12, li_13, li_14, li_15, li_16, li_17, li_18, li_19, li_20, li_21, li_22, li_23, li_24, li_25, li_26, li_27, li_28, li_29, li_30, li_31, li_32, li_33, li_34, li_35, li_36, li_37, li_38, li_39, li_40, li_41, li_42, li_46, li_48, li_57, li_58, li_59, li_60, li_61, li_62, li_68, li_80, li_96, li_99, li_100, li_105, li_106, li_107, li_108, li_111, li_116, li_118, li_123, li_126, li_127, li_202, li_203, li_204, li_205, li_206, li_233, li_234, li_255, li_256, li_468, li_512, li_999, li_1023, li_1170, li_1404, li_99999, li_1073741824, lm_1, lm_2, lm_3, lm_4, lm_5, lm_6, chk_nI]
  rw [of_z _ 0 1 (by omega), ob1_ev]
  simp (disch := omega) only [nm_ev, ob0_ev, ob1_ev, ob2_ev, ob3_ev, ob4_ev, ob5_ev, ob6_ev, ob7_ev, upd_fI, fI_ap, nI_add, pk_mul, li_0, li_1, li_2, li_3, li_4, li_5, li_6, li_7, li_8, li_9, li_10, li_11, li_12, li_13, li_14, li_15, li_16, li_17, li_18, li_19, li_20, li_21, li_22, li_23, li_24, li_25, li_26, li_27, li_28, li_29, li_30, li_31, li_32, li_33, li_34, li_35, li_36, li_37, li_38, li_39, li_40, li_41, li_42, li_46, li_48, li_57, li_58, li_59, li_60, li_61, li_62, li_68, li_80, li_96, li_99, li_100, li_105, li_106, li_107, li_108, li_111, li_116, li_118, li_123, li_126, li_127, li_202, li_203, li_204, li_205, li_206, li_233, li_234, li_255, li_256, li_468, li_512, li_999, li_1023, li_1170, li_1404, li_99999, li_1073741824, lm_1, lm_2, lm_3, lm_4, lm_5, lm_6, uN_s, uN_n, chk_nI]
  have e : uN (uN (uN (uN (uN (uN z (106 + 3 * r) (z 44)) (106 + 3 * r + 1) (z 42)) (106 + 3 * r + 2) (z 43)) 13 (z 13 + 1)) 14 (z 14)) 45 (z 45 + 1) = zfirst z r := by
    funext j
    simp only [uN, zfirst]
    repeat' split
    all_goals first | rfl | omega | (subst_vars; rfl) | (subst_vars; omega)
  try simp only [Nat.add_zero, Nat.mul_zero]
  try simp (disch := omega) only [uN_s, uN_n]
  rw [e]
  have hl : ∀ k, zfirst z r k < 4294967296 := lt_uN (lt_uN (lt_uN (lt_uN (lt_uN hz _ _ (hz 44)) _ _ (hz 42)) _ _ (hz 43)) _ _ (by omega)) _ _ (by omega)
  have e4 : zfirst z r 4 = z 4 := by simp (disch := omega) only [zfirst, uN_s, uN_n]
  have e15 : zfirst z r 15 = z 15 := by simp (disch := omega) only [zfirst, uN_s, uN_n]
  have e10 : zfirst z r 10 = z 10 := by simp (disch := omega) only [zfirst, uN_s, uN_n]
  have e11 : zfirst z r 11 = z 11 := by simp (disch := omega) only [zfirst, uN_s, uN_n]
  simp (disch := omega) only [nI_eq32]
  by_cases h2 : z 45 + 1 = 2
  · rw [if_pos h2, if_pos h2]
    rw [leaves_z _ 0 (by rw [uN_n (by omega), e10]; omega) (by rw [uN_n (by omega), e10]; omega) (by omega), ob1_ev]
    have hu : ∀ k, uN (zfirst z r) 11 (z 11 + 1) k < 4294967296 := lt_uN hl _ _ (by omega)
    have g : ∀ j, j < 42 → j ≠ 10 → zleave (uN (zfirst z r) 11 (z 11 + 1)) 0 j = uN (zfirst z r) 11 (z 11 + 1) j := by
      intro j hj hj10
      simp only [zleave, zlvF]
      rw [if_neg (by omega), uN_n hj10]
    refine row_z _ (zlvF_lt (lt_uN hu _ _ ?_) _) ?_ ?_
    · rw [uN_n (by omega), e10]; omega
    · rw [g 4 (by omega) (by omega), uN_n (by omega), e4]; exact h4
    · rw [g 15 (by omega) (by omega), g 4 (by omega) (by omega), uN_n (by omega), uN_n (by omega), e4, e15]; exact h15
  · rw [if_neg h2, if_neg h2]
    exact row_z _ hl (by rw [e4]; exact h4) (by rw [e15, e4]; exact h15)
theorem show_z (z : Nat → Nat) (hz : ∀ k, z k < 4294967296) (r : Nat) (hr : r < 32) (h4 : z 4 ≤ 16) (h15 : z 15 < 2 * z 4) (h10 : z 10 ≤ 16) (h45 : z 10 ≠ 0 → z 45 ≤ 1) (h13 : z 13 ≤ 2000000) (h14 : z 14 ≤ 2000000) (h11 : z 11 ≤ 2000000) : fX5_goesOut_40 (fI z) (nI r) = some (fI (zshow z r)) := by
  by_cases h : z 10 = 0
  · exact show_0 z hz r hr h4 h15 h10 h45 h13 h14 h11 h
  · exact show_1 z hz r hr h4 h15 h10 h45 h13 h14 h11 h
def zbegin (z : Nat → Nat) : Prop := z 43 = 0 ∧ z 45 = 0
theorem begin_z (z : Nat → Nat) (hz : ∀ k, z k < 4294967296) : (zbegin z → fX5_isBegin (fI z) = some 1) ∧ (¬ zbegin z → fX5_isBegin (fI z) = some 0) := by
  have h1 := hz 43
  have h2 := hz 45
  unfold fX5_isBegin
  rw [li_0, li_1, li_3, of_z z 0 1 (by omega), ob1_ev, of_z z 0 3 (by omega), ob1_ev]
  simp only [Nat.mul_zero, Nat.add_zero]
  simp (disch := omega) only [nI_eq32]
  unfold zbegin
  by_cases c1 : z 43 = 0 <;> by_cases c2 : z 45 = 0 <;> simp [c1, c2]
def zskip (z : Nat → Nat) : Nat → (Nat → Nat)
  | 0 => z
  | n + 1 => if z 10 = 0 ∨ (z 43 = 0 ∧ z 45 = 0) then z else zskip (zlose z 0 2) n
def zout (z : Nat → Nat) : Nat → Nat := zshow (if z 6 = 1 ∧ z 15 = 0 then zskip z (z 10) else z) (z 15)
/-! what a lost line leaves -/
theorem zlose_q (z : Nat → Nat) (p w i c : Nat) (hc : c < 4) (hi : i < 16) (h10 : z 10 ≤ 17) : zlose z p w (42 + 4 * i + c) = if p ≤ i ∧ i < z 10 - 1 then z (42 + 4 * (i + 1) + c) else z (42 + 4 * i + c) := by
  simp only [zlose, zleave, zlvF, uN_s]
  have g : ∀ j, 42 ≤ j → j < 202 → uN (zmiss z (z (42 + 4 * p + 0)) (z (42 + 4 * p + 1)) w) 10 (zmiss z (z (42 + 4 * p + 0)) (z (42 + 4 * p + 1)) w 10 - 1) j = z j := by
    intro j h1 h2
    rw [uN_n (by omega)]
    simp only [zmiss, zmissF]
    rw [if_neg (by omega), if_neg (by omega), if_neg (by omega), if_neg (by omega), if_neg (by omega), if_neg (by omega), if_neg (by omega)]
  rw [zmiss_10]
  by_cases h : p ≤ i ∧ i < z 10 - 1
  · rw [if_pos (by omega), if_pos h]
    have := g (42 + 4 * i + c + 4) (by omega) (by omega)
    rw [zmiss_10] at this
    rw [this]
    congr 1
    omega
  · rw [if_neg (by omega), if_neg h]
    have := g (42 + 4 * i + c) (by omega) (by omega)
    rw [zmiss_10] at this
    exact this
theorem zlose_sh (z : Nat → Nat) (p w j : Nat) (h1 : 106 ≤ j) (h2 : j < 202) (h10 : z 10 ≤ 17) : zlose z p w j = z j := by
  simp only [zlose, zleave, zlvF, uN_s]
  rw [zmiss_10, if_neg (by omega), uN_n (by omega)]
  simp only [zmiss, zmissF]
  rw [if_neg (by omega), if_neg (by omega), if_neg (by omega), if_neg (by omega), if_neg (by omega), if_neg (by omega), if_neg (by omega)]
theorem zlose_go (z : Nat → Nat) (p w j : Nat) (h1 : 202 ≤ j) (h10 : z 10 ≤ 17) : zlose z p w j = zmiss z (z (42 + 4 * p + 0)) (z (42 + 4 * p + 1)) w j := by
  simp only [zlose, zleave, zlvF, uN_s]
  rw [zmiss_10, if_neg (by omega), uN_n (by omega)]
theorem zlose_12 (z : Nat → Nat) (p w : Nat) : zlose z p w 12 = z 12 + 1 := by
  simp only [zlose, zleave, zlvF, uN_s]
  rw [if_neg (by omega), uN_n (by omega)]
  simp [zmiss, zmissF]
theorem zlose_24 (z : Nat → Nat) (p w : Nat) : zlose z p w 24 = if z 24 < 8 then z 24 + 1 else z 24 := by
  simp only [zlose, zleave, zlvF, uN_s]
  rw [if_neg (by omega), uN_n (by omega)]
  simp [zmiss, zmissF]
theorem zmiss_lt {z : Nat → Nat} (hz : ∀ k, z k < 4294967296) (p l w : Nat) (hp : p < 4294967296) (hl : l < 4294967296) (hw : w < 4294967296) (h12 : z 12 + 1 < 4294967296) : ∀ k, zmiss z p l w k < 4294967296 := by
  intro k
  have h24 := hz 24
  simp only [zmiss, zmissF]
  repeat' split
  all_goals first | assumption | exact hz _ | omega
theorem zlose_lt {z : Nat → Nat} (hz : ∀ k, z k < 4294967296) (p w : Nat) (hw : w < 4294967296) (h12 : z 12 + 1 < 4294967296) : ∀ k, zlose z p w k < 4294967296 := by
  have h1 := zmiss_lt hz (z (42 + 4 * p + 0)) (z (42 + 4 * p + 1)) w (hz _) (hz _) hw h12
  have h2 := h1 10
  exact zlvF_lt (lt_uN h1 _ _ (by omega)) _
/-- what the waiting lines' methods need -/
def KQ (z : Nat → Nat) : Prop := (∀ k, z k < 4294967296) ∧ z 4 ≤ 16 ∧ z 15 < 2 * z 4 ∧ z 10 ≤ 16 ∧ (∀ p, p < z 10 → z (42 + 4 * p + 3) ≤ 1) ∧ z 13 ≤ 2000000 ∧ z 14 ≤ 2000000 ∧ z 11 ≤ 2000000 ∧ z 24 ≤ 8 ∧ z 12 + z 10 ≤ 2000000
theorem KQ.lose {z : Nat → Nat} (h : KQ z) (h0 : z 10 ≠ 0) (p w : Nat) (hp : p < z 10) (hw : w ≤ 2) : KQ (zlose z p w) := by
  obtain ⟨h1, h2, h3, h4, h5, h6, h7, h8, h9, h11⟩ := h
  refine ⟨zlose_lt h1 p w (by omega) (by omega), ?_, ?_, ?_, fun i hi => ?_, ?_, ?_, ?_, ?_, ?_⟩
  · rw [zlose_lo _ _ _ _ (by omega) (by omega) (by omega) (by omega)]; exact h2
  · rw [zlose_lo _ _ _ _ (by omega) (by omega) (by omega) (by omega), zlose_lo _ _ _ _ (by omega) (by omega) (by omega) (by omega)]; exact h3
  · rw [zlose_10]; omega
  · rw [zlose_10] at hi
    rw [zlose_q _ _ _ _ _ (by omega) (by omega) (by omega)]
    split
    · exact h5 (i + 1) (by omega)
    · exact h5 i (by omega)
  · rw [zlose_lo _ _ _ _ (by omega) (by omega) (by omega) (by omega)]; exact h6
  · rw [zlose_lo _ _ _ _ (by omega) (by omega) (by omega) (by omega)]; exact h7
  · rw [zlose_lo _ _ _ _ (by omega) (by omega) (by omega) (by omega)]; exact h8
  · rw [zlose_24]
    split <;> omega
  · rw [zlose_12, zlose_10]; omega
theorem out_loop (r : Nat) (hr : r < 32) : ∀ (n m : Nat) (z : Nat → Nat), KQ z → z 10 ≤ m → m < n → fX5_goesOut_5 n (fI z) (nI r) = some (fI (zshow (if z 6 = 1 ∧ r = 0 then zskip z m else z) r)) := by
  intro n
  induction n with
  | zero => intro m z _ h1 h2; omega
  | succ n ih =>
    intro m z hK h1 h2
    have hK2 := hK
    obtain ⟨k1, k2, k3, k4, k5, k6, k7, k8, k9, k11⟩ := hK2
    have q6 := k1 6
    have hsh := show_z z k1 r hr k2 k3 k4 (fun h => by have := k5 0 (by omega); simpa using this) k6 k7 k8
    show fX5_goesOut_5_b (fX5_goesOut_5 n) (fI z) (nI r) = _
    unfold fX5_goesOut_5_b
    simp (disch := omega) only [fI_ap, li_1, li_0, li_2, nI_eq32, nI_le31]
    by_cases c6 : z 6 = 1
    · by_cases cr : r = 0
      · rw [if_pos c6, if_pos cr, if_pos (show z 6 = 1 ∧ r = 0 from ⟨c6, cr⟩)]
        by_cases c10 : z 10 ≤ 0
        · rw [if_pos c10, hsh]
          cases m with
          | zero => rfl
          | succ m =>
            unfold zskip
            rw [if_pos (Or.inl (by omega))]
        · rw [if_neg c10]
          obtain ⟨b1, b0⟩ := begin_z z k1
          cases m with
          | zero => omega
          | succ m =>
            unfold zskip
            by_cases hb : zbegin z
            · rw [b1 hb, ob1_ev, if_neg (show ¬ (1 : Int32) = nI 0 by decide), hsh, if_pos (show z 10 = 0 ∨ (z 43 = 0 ∧ z 45 = 0) from Or.inr hb)]
            · rw [b0 hb, ob1_ev, if_pos (show (0 : Int32) = nI 0 by decide)]
              rw [loses_z z 0 2 (by omega) (by omega) (by omega) (by omega), ob1_ev]
              rw [ih m _ (hK.lose (by omega) 0 2 (by omega) (by omega)) (by rw [zlose_10]; omega) (by omega)]
              rw [if_pos (show zlose z 0 2 6 = 1 ∧ r = 0 from ⟨by rw [zlose_lo _ _ _ _ (by omega) (by omega) (by omega) (by omega)]; exact c6, cr⟩)]
              have hb2 : ¬ (z 43 = 0 ∧ z 45 = 0) := hb
              rw [if_neg (fun h => h.elim (fun h => c10 (by omega)) hb2)]
      · rw [if_pos c6, if_neg cr, hsh, if_neg (fun h => cr h.2)]
    · rw [if_neg c6, hsh, if_neg (fun h => c6 h.1)]
theorem out_z (z : Nat → Nat) (hK : KQ z) : fX5_goesOut (fI z) = some (fI (zout z)) := by
  unfold fX5_goesOut zout
  simp only [nm_ev, fI_ap]
  obtain ⟨-, h4, h15, h10, -⟩ := id hK
  rw [out_loop (z 15) (by omega) KF (z 10) z hK (Nat.le_refl _) (by rw [KF_eq]; omega)]
def zend2 (z : Nat → Nat) : Nat → Nat := uN (uN z 0 (z 0 + 1)) 25 (z 25 + z 10)
def ztick2 (z : Nat → Nat) : Nat → Nat := if z 19 = z 0 then zend2 (zout z) else zend2 z
def ztick (z : Nat → Nat) : Nat → Nat := if z 18 = z 0 then ztick2 (zcome z) else ztick2 z
theorem tick28_z (z : Nat → Nat) : fX5_ticks_28 (fI z) = some (fI (zend2 z)) := by
  unfold fX5_ticks_28 zend2
  simp (disch := omega) only [nm_ev, ob0_ev, ob1_ev, ob2_ev, ob3_ev, ob4_ev, ob5_ev, ob6_ev, ob7_ev, upd_fI, fI_ap, nI_add, pk_mul, li_0, li_1, li_2, li_3, li_4, li_5, li_6, li_7, li_8, li_9, li_10, li_11, li_12, li_13, li_14, li_15, li_16, li_17, li_18, li_19, li_20, li_21, li_22, li_23, li_24, li_25, li_26, li_27, li_28, li_29, li_30, li_31, li_32, li_33, li_34, li_35, li_36, li_37, li_38, li_39, li_40, li_41, li_42, li_46, li_48, li_57, li_58, li_59, li_60, li_61, li_62, li_68, li_80, li_96, li_99, li_100, li_105, li_106, li_107, li_108, li_111, li_116, li_118, li_123, li_126, li_127, li_202, li_203, li_204, li_205, li_206, li_233, li_234, li_255, li_256, li_468, li_512, li_999, li_1023, li_1170, li_1404, li_99999, li_1073741824, lm_1, lm_2, lm_3, lm_4, lm_5, lm_6, uN_s, uN_n]
theorem tick14_z (z : Nat → Nat) (hz : ∀ k, z k < 4294967296) (hK : z 19 = z 0 → KQ z) : fX5_ticks_14 (fI z) = some (fI (ztick2 z)) := by
  unfold fX5_ticks_14 ztick2
  have h1 := hz 19
  have h2 := hz 0
  simp (disch := omega) only [fI_ap, nI_eq32]
  by_cases h : z 19 = z 0
  · rw [if_pos h, if_pos h, out_z z (hK h), ob1_ev, tick28_z]
  · rw [if_neg h, if_neg h, tick28_z]
