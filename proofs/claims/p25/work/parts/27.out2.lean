/-! ===== a row goes out, on the class's side ===== -/
theorem zskip_lo (j : Nat) (h : j < 42) (h10 : j ≠ 10) (h12 : j ≠ 12) (h24 : j ≠ 24) : ∀ (n : Nat) (z : Nat → Nat), zskip z n j = z j := by
  intro n
  induction n with
  | zero => intro z; rfl
  | succ n ih =>
    intro z
    unfold zskip
    split
    · rfl
    · rw [ih, zlose_lo _ _ _ _ h h10 h12 h24]
theorem zskip_sh (j : Nat) (h1 : 106 ≤ j) (h2 : j < 202) : ∀ (n : Nat) (z : Nat → Nat), z 10 ≤ 17 → zskip z n j = z j := by
  intro n
  induction n with
  | zero => intro z _; rfl
  | succ n ih =>
    intro z h
    unfold zskip
    split
    · rfl
    · rw [ih _ (by rw [zlose_10]; omega), zlose_sh _ _ _ _ h1 h2 h]
theorem KQ.skip : ∀ (n : Nat) (z : Nat → Nat), KQ z → KQ (zskip z n) := by
  intro n
  induction n with
  | zero => intro z h; exact h
  | succ n ih =>
    intro z h
    unfold zskip
    split
    · exact h
    · rename_i hc
      exact ih _ (h.lose (fun e => hc (Or.inl e)) 0 2 (by omega) (by omega))
theorem skip_loop (X : Nat) (hX : X ≤ 16) : ∀ (n m : Nat) (z a q l : Nat → Nat), KQ z → z 10 = m → m ≤ X → m < n → RA a z → RQ q z → RM l z → (∀ j, q j < 4294967296) → ∃ a' q' l', fX2_skipToPicture_9 n (fI a) (fI q) (fI l) (nI X) (nI (X - m)) = some (fI a', fI q', fI l') ∧ RA a' (zskip z m) ∧ RQ q' (zskip z m) ∧ RM l' (zskip z m) ∧ ∀ j, q' j < 4294967296 := by
  intro n
  induction n with
  | zero => intro m z a q l _ _ _ h; omega
  | succ n ih =>
    intro m z a q l hK hm hmX hn hA hQ hL hq
    show ∃ a' q' l', fX2_skipToPicture_9_b (fX2_skipToPicture_9 n) (fI a) (fI q) (fI l) (nI X) (nI (X - m)) = _ ∧ _
    unfold fX2_skipToPicture_9_b
    obtain ⟨k1, k2, k3, k4, k5, k6, k7, k8, k9, k11⟩ := id hK
    cases m with
    | zero =>
      rw [if_pos (by rw [nI_le31 (by omega) (by omega)]; omega)]
      exact ⟨a, q, l, rfl, hA, hQ, hL, hq⟩
    | succ m =>
      rw [if_neg (by rw [nI_le31 (by omega) (by omega)]; omega)]
      have q1 : q 1 = z 43 := hQ 0 1 (by omega) (by omega)
      have q3 : q 3 = z 45 := hQ 0 3 (by omega) (by omega)
      have b1 := k1 43
      have b3 := k1 45
      have e0 : a 0 = z 0 := hA 0 (by omega)
      have e2 : a 2 = z 10 := hA 2 (by omega)
      have e4 : a 4 = z 12 := hA 4 (by omega)
      -- one line is skipped
      have hl : ∃ a' q' l', (ob3 (fX2_loseWaiting (fI a) (fI q) (fI l) 0 2) fun nu_3 qu_4 lo_5 => nm (nI (X - (m + 1)) + 1) fun x2_7 => fX2_skipToPicture_9 n nu_3 qu_4 lo_5 (nI X) x2_7) = some (fI a', fI q', fI l') ∧ RA a' (zskip (zlose z 0 2) m) ∧ RQ q' (zskip (zlose z 0 2) m) ∧ RM l' (zskip (zlose z 0 2) m) ∧ ∀ j, q' j < 4294967296 := by
        rw [li_0, li_2, lose_c _ _ _ _ _ (by omega) (by omega) (by omega), ob3_ev, nm_ev, li_1, nI_add, show X - (m + 1) + 1 = X - m by omega]
        have hL2 := hL.lose (by omega) 0 2
        have f0 : q (0 * 4 + 0) = z (42 + 4 * 0 + 0) := hQ 0 0 (by omega) (by omega)
        have f1 : q (0 * 4 + 1) = z (42 + 4 * 0 + 1) := hQ 0 1 (by omega) (by omega)
        rw [e0, e4, f0, f1]
        exact ih m _ _ _ _ (hK.lose (by omega) 0 2 (by omega) (by omega)) (by rw [zlose_10]; omega) (by omega) (by omega) (hA.lose 0 2) (hQ.lose k4 0 2 (by omega)) hL2 (rmF_lt hq 0)
      have r1 : fX3_read 4 68 (fI q) 0 1 = some (nI (z 43)) := by
        rw [← q1]
        exact tb_read 4 68 (by omega) q 0 1 (by omega)
      have r3 : fX3_read 4 68 (fI q) 0 3 = some (nI (z 45)) := by
        rw [← q3]
        exact tb_read 4 68 (by omega) q 0 3 (by omega)
      rw [r1, ob1_ev, r3, ob1_ev]
      unfold zskip
      by_cases c1 : z 43 = 0
      · rw [if_pos (by rw [c1]; rfl)]
        by_cases c3 : z 45 = 0
        · rw [if_pos (by rw [c3]; rfl), if_pos (Or.inr ⟨c1, c3⟩)]
          exact ⟨a, q, l, rfl, hA, hQ, hL, hq⟩
        · rw [if_neg (by rw [li_0, nI_eq32 b3 (by omega)]; exact c3), if_neg (by omega)]
          exact hl
      · rw [if_neg (by rw [li_0, nI_eq32 b1 (by omega)]; exact c1), if_neg (by omega)]
        exact hl
theorem jbare_mono (z : Nat → Nat) : ∀ (n r : Nat), r ≤ n → jbare z r = true → jbare z n = true := by
  intro n
  induction n with
  | zero => intro r h1 h2; rw [show r = 0 by omega] at h2; exact h2
  | succ n ih =>
    intro r h1 h2
    by_cases h : r = n + 1
    · rw [← h]; exact h2
    · unfold jbare
      rw [ih r (by omega) h2]
      rfl
theorem judge_loop (z c : Nat → Nat) (hz : ∀ k, z k < 4294967296) (hC : RC c z) (h4 : z 4 ≤ 16) : ∀ (n r : Nat), r ≤ 2 * z 4 → 2 * z 4 < n + r → jbare z r = false → fX2_judgeScreen_15 n (fI c) (nI (2 * z 4)) (nI (z 107)) (if jclean z r = true then 0 else 1) (nI r) = some (nI (zjudge z)) := by
  intro n
  induction n with
  | zero => intro r h1 h2; omega
  | succ n ih =>
    intro r h1 h2 hb
    show fX2_judgeScreen_15_b (fX2_judgeScreen_15 n) (fI c) (nI (2 * z 4)) (nI (z 107)) _ (nI r) = _
    unfold fX2_judgeScreen_15_b
    by_cases hr : 2 * z 4 ≤ r
    · have e : r = 2 * z 4 := by omega
      rw [if_pos (by rw [nI_le31 (by omega) (by omega)]; exact hr)]
      rw [e] at hb ⊢
      unfold zjudge
      rw [hb, if_neg (show ¬ (false = true) by simp)]
      by_cases hc : jclean z (2 * z 4) = true
      · rw [if_pos hc, if_pos hc]; rfl
      · rw [if_neg hc, if_neg hc]; rfl
    · rw [if_neg (by rw [nI_le31 (by omega) (by omega)]; exact hr)]
      have g1 : c (r * 3 + 1) = z (106 + 3 * r + 1) := by rw [hC _ (by omega)]; congr 1; omega
      have g2 : c (r * 3 + 2) = z (106 + 3 * r + 2) := by rw [hC _ (by omega)]; congr 1; omega
      have b1 := hz (106 + 3 * r + 1)
      have b2 := hz (106 + 3 * r + 2)
      have b7 := hz 107
      have r1 : fX3_read 3 96 (fI c) (nI r) 1 = some (nI (z (106 + 3 * r + 1))) := by
        rw [← g1]; exact tb_read 3 96 (by omega) c r 1 (by omega)
      have r2 : fX3_read 3 96 (fI c) (nI r) 2 = some (nI (z (106 + 3 * r + 2))) := by
        rw [← g2]; exact tb_read 3 96 (by omega) c r 2 (by omega)
      rw [r1, ob1_ev]
      by_cases c0 : z (106 + 3 * r + 1) = NON
      · rw [if_pos (by rw [c0]; decide)]
        have hb2 : jbare z (r + 1) = true := by
          unfold jbare
          rw [decide_eq_true c0, Bool.or_true]
        unfold zjudge
        rw [jbare_mono z _ _ (by omega) hb2, if_pos rfl]
        rfl
      · rw [if_neg (by rw [ln_6, nI_eq32 b1 (by omega)]; exact c0), ob1_ev]
        have hb2 : jbare z (r + 1) = false := by
          unfold jbare
          rw [hb, decide_eq_false c0]
          rfl
        have ih' := ih (r + 1) (by omega) (by omega) hb2
        rw [li_2, nI_div (by omega) (by omega) (by omega)]
        by_cases c1 : z (106 + 3 * r + 1) = z 107
        · rw [if_pos (by rw [c1]), ← li_2, r2, ob1_ev]
          by_cases c2 : z (106 + 3 * r + 2) = r / 2
          · rw [if_pos (by rw [c2]), nm_ev, li_1, nI_add]
            have e : jclean z (r + 1) = jclean z r := by
              conv => lhs; unfold jclean
              rw [decide_eq_true c1, decide_eq_true c2, Bool.and_true, Bool.and_true]
            rw [e, li_1] at ih'
            exact ih'
          · rw [if_neg (by rw [nI_eq32 b2 (by omega)]; exact c2), nm_ev]
            have e : jclean z (r + 1) = false := by
              unfold jclean
              rw [decide_eq_false c2, Bool.and_false, Bool.and_false]
            rw [e, if_neg (by simp)] at ih'
            rw [show nI r + 1 = nI (r + 1) from nI_1 r]
            exact ih'
        · rw [if_neg (by rw [nI_eq32 b1 b7]; exact c1), nm_ev]
          have e : jclean z (r + 1) = false := by
            unfold jclean
            rw [decide_eq_false c1, Bool.false_and, Bool.and_false]
          rw [e, if_neg (by simp)] at ih'
          rw [show nI r + 1 = nI (r + 1) from nI_1 r]
          exact ih'
theorem judge_c (z c : Nat → Nat) (hz : ∀ k, z k < 4294967296) (hC : RC c z) (h4 : z 4 ≤ 16) : fX2_judgeScreen (fI c) (nI (2 * z 4)) = some (nI (zjudge z)) := by
  unfold fX2_judgeScreen
  have r1 : fX3_read 3 96 (fI c) 0 1 = some (nI (z 107)) := by
    have e : c 1 = z 107 := hC 1 (by omega)
    rw [← e]
    exact tb_read 3 96 (by omega) c 0 1 (by omega)
  rw [r1, ob1_ev]
  exact judge_loop z c hz hC h4 KF 0 (by omega) (by rw [KF_eq]; omega) rfl
theorem zrow_hi (z : Nat → Nat) (j : Nat) (h : j < 15 ∨ 23 < j ∨ (15 < j ∧ j < 19)) : zrow z j = z j := by
  have hj := zjudge_le (uN z 15 0)
  unfold zrow zend
  split
  · rw [uN_n (by omega), uN_n (by omega)]
  · rw [uN_n (by omega), uN_n (by omega), uN_n (by omega), uN_n (by omega)]
theorem row52_c (a c : Nat → Nat) (z : Nat → Nat) (Q L : Nat → Int32) (hz : ∀ k, z k < 4294967296) (hA : RA a z) (hC : RC c z) (h4 : z 4 ≤ 16) (h15 : z 15 < 2 * z 4) : ∃ a', fX2_rowGoesOut_52 (fI a) Q (fI c) L (nI (2 * z 4)) (nI (z 15)) = some (fI a', Q, fI c, L) ∧ RA a' (zrow (uN z 13 (z 13 + 1))) := by
  have e5 : a 5 = z 13 := hA 5 (by omega)
  have e11 : a 11 = z 19 := hA 11 (by omega)
  have e17 : a 17 = z 2 := hA 17 (by omega)
  have hA1 : RA (uN a 5 (a 5 + 1)) (uN z 13 (z 13 + 1)) := by rw [e5]; exact hA.up 5 _ (by omega) rfl
  have hA2 : ∀ x, RA (uN (uN a 5 (a 5 + 1)) 7 x) (uN (uN z 13 (z 13 + 1)) 15 x) := fun x => hA1.up 7 x (by omega) rfl
  have tail : ∀ (b y : Nat → Nat), RA b y → ∃ b', fX2_rowGoesOut_118 (fI b) Q (fI c) L = some (fI b', Q, fI c, L) ∧ RA b' (zend y) := by
    intro b y hb
    unfold fX2_rowGoesOut_118
    rw [set_1, ob1_ev, fI_ap, nI_add, upd_fI, nm_ev]
    refine ⟨_, rfl, ?_⟩
    have f11 : b 11 = y 19 := hb 11 (by omega)
    have f17 : b 17 = y 2 := hb 17 (by omega)
    rw [f11, f17]
    exact hb.up 11 _ (by omega) rfl
  unfold fX2_rowGoesOut_52
  rw [fI_ap, li_1, nI_add, upd_fI, nm_ev, nI_add, upd_fI, nm_ev, fI_ap, uN_s]
  unfold zrow
  rw [uN_n (show 15 ≠ 13 by omega), uN_n (show 4 ≠ 13 by omega)]
  by_cases h : z 15 + 1 < 2 * z 4
  · rw [if_pos (by rw [nI_lt31 (by omega) (by omega)]; exact h), if_pos h]
    exact tail _ _ (hA2 _)
  · rw [if_neg (by rw [nI_lt31 (by omega) (by omega)]; exact h), if_neg h]
    rw [li_0, upd_fI, nm_ev]
    have hzj : zjudge (uN (uN z 13 (z 13 + 1)) 15 0) = zjudge z := by
      unfold zjudge
      rw [uN_n (show 4 ≠ 15 by omega), uN_n (show 4 ≠ 13 by omega), jbare_uN _ _ _ (by omega), jbare_uN _ _ _ (by omega), jclean_uN _ _ _ (by omega), jclean_uN _ _ _ (by omega)]
    rw [hzj, judge_c z c hz hC h4, ob1_ev]
    have hj := zjudge_le z
    have hA3 := (hA1.up 7 0 (by omega) (m := 15) rfl)
    have eu : uN (uN (uN a 5 (a 5 + 1)) 7 (z 15 + 1)) 7 0 = uN (uN a 5 (a 5 + 1)) 7 0 := by
      funext j
      simp only [uN]
      split <;> rfl
    rw [eu]
    generalize zjudge z = g at hj ⊢
    rw [li_12, nI_add, nm_ev, chk_nI (by omega) (by omega), chk_nI (by omega) (by omega), fI_ap, nI_add, upd_fI, nm_ev, upd_fI, nm_ev]
    have f12 : uN (uN a 5 (a 5 + 1)) 7 0 (12 + g) = uN z 13 (z 13 + 1) (20 + g) := by
      rw [hA3 (12 + g) (by omega)]
      have em : mu (12 + g) = 20 + g := by unfold mu; rw [if_neg (by omega), if_pos (by omega)]; omega
      rw [em, uN_n (by omega)]
    rw [f12]
    have hA4 := (hA3.up (12 + g) (uN z 13 (z 13 + 1) (20 + g) + 1) (by omega) (m := 20 + g) (by unfold mu; rw [if_neg (by omega), if_pos (by omega)]; omega)).up 15 g (by omega) (m := 23) rfl
    have ez : uN (uN (uN (uN z 13 (z 13 + 1)) 15 0) (20 + g) (uN z 13 (z 13 + 1) (20 + g) + 1)) 23 g = uN (uN (uN (uN z 13 (z 13 + 1)) 15 0) 23 g) (20 + g) (uN z 13 (z 13 + 1) (20 + g) + 1) := by
      funext j
      simp only [uN]
      repeat' split
      all_goals first | rfl | omega
    rw [ez] at hA4
    exact tail _ _ hA4
theorem zempty_hi (z : Nat → Nat) (r w j : Nat) (h : 202 ≤ j) (hr : r < 32) : zemptyW z r w j = z j := by
  simp (disch := omega) only [zemptyW, uN_s, uN_n]
theorem zfirst_hi (z : Nat → Nat) (r j : Nat) (h : j < 106 ∨ 202 ≤ j) (hr : r < 32) (h13 : j ≠ 13) (h45 : j ≠ 45) : zfirst z r j = z j := by
  simp (disch := omega) only [zfirst, uN_s, uN_n]
theorem RC.write {c z : Nat → Nat} (h : RC c z) (r x y w : Nat) (hr : r < 32) : RC (uN (uN (uN c (r * 3 + 0) x) (r * 3 + 1) y) (r * 3 + 2) w) (uN (uN (uN z (106 + 3 * r) x) (106 + 3 * r + 1) y) (106 + 3 * r + 2) w) := by
  intro j hj
  have := h j hj
  simp only [uN]
  repeat' split
  all_goals first | assumption | rfl | omega
/-- the parts of the relation that a row touches -/
theorem show_c (a v q c l : Nat → Nat) (t : Nat) (z : Nat → Nat) (hR : RZ a v q c l t z) (hq : ∀ j, q j < 4294967296) (hK : KQ z) : ∃ a' q' c' l', fX2_rowGoesOut_30 (fI a) (fI q) (fI c) (fI l) (nI (2 * z 4)) (nI (z 15)) = some (fI a', fI q', fI c', fI l') ∧ RZ a' v q' c' l' t (zshow z (z 15)) ∧ ∀ j, q' j < 4294967296 := by
  obtain ⟨hA, hV, hQ, hC, hL, hT⟩ := hR
  obtain ⟨k1, k2, k3, k4, k5, k6, k7, k8, k9, k11⟩ := hK
  have e2 : a 2 = z 10 := hA 2 (by omega)
  have e6 : a 6 = z 14 := hA 6 (by omega)
  have e22 : a 22 = z 7 := hA 22 (by omega)
  have hr : z 15 < 32 := by omega
  unfold fX2_rowGoesOut_30 zshow
  by_cases h : z 10 = 0
  · rw [if_pos (by rw [fI_ap, e2, h]; decide), if_pos h]
    have hsc : fX2_showColour (fI a) (fI c) (nI (z 15)) = some (fI (uN a 6 (a 6 + 1)), fI (uN (uN (uN c (z 15 * 3 + 0) (z 7)) (z 15 * 3 + 1) NON) (z 15 * 3 + 2) NON)) := by
      unfold fX2_showColour
      rw [set_6, ob1_ev, e22, ln_6, li_0, li_1, li_2, li_3]
      rw [tb_write 3 96 (by omega) c _ 0 _ (by omega), ob1_ev, tb_write 3 96 (by omega) _ _ 1 _ (by omega), ob1_ev, tb_write 3 96 (by omega) _ _ 2 _ (by omega), ob1_ev, fI_ap, nI_add, upd_fI, nm_ev]
      rfl
    rw [hsc, ob2_ev]
    have hw : NON < 4294967296 := by unfold NON; omega
    unfold zempty
    revert hw
    generalize NON = w
    intro hw
    -- the state without the count of rows
    obtain ⟨y, hy⟩ : ∃ y, y = uN (uN (uN (uN z (106 + 3 * z 15) (z 7)) (106 + 3 * z 15 + 1) w) (106 + 3 * z 15 + 2) w) 14 (z 14 + 1) := ⟨_, rfl⟩
    have ylo : ∀ j, j < 106 → j ≠ 14 → y j = z j := fun j h1 h2 => by rw [hy]; simp (disch := omega) only [uN_s, uN_n]
    have ey : uN y 13 (y 13 + 1) = zemptyW z (z 15) w := by
      rw [ylo 13 (by omega) (by omega), hy]
      unfold zemptyW
      funext j
      simp only [uN]
      repeat' split
      all_goals first | rfl | omega
    have hAy : RA (uN a 6 (a 6 + 1)) y := by
      rw [e6]
      refine (hA.up 6 (z 14 + 1) (by omega) (m := 14) rfl).ext fun j hj => ?_
      rw [hy]
      simp only [uN]
      by_cases e : j = 14
      · rw [if_pos e, if_pos e]
      · rw [if_neg e, if_neg (by omega), if_neg (by omega), if_neg (by omega), if_neg e]
    have hCy : RC (uN (uN (uN c (z 15 * 3 + 0) (z 7)) (z 15 * 3 + 1) w) (z 15 * 3 + 2) w) y := by
      refine (hC.write (z 15) (z 7) w w hr).ext fun j h1 h2 => ?_
      rw [hy, uN_n (by omega)]
    have hylt : ∀ k, y k < 4294967296 := by
      rw [hy]
      exact lt_uN (lt_uN (lt_uN (lt_uN k1 _ _ (k1 7)) _ _ hw) _ _ hw) _ _ (by omega)
    obtain ⟨a', h1, h2⟩ := row52_c (uN a 6 (a 6 + 1)) _ y (fI q) (fI l) hylt hAy hCy (by rw [ylo 4 (by omega) (by omega)]; exact k2) (by rw [ylo 15 (by omega) (by omega), ylo 4 (by omega) (by omega)]; exact k3)
    rw [ylo 15 (by omega) (by omega), ylo 4 (by omega) (by omega)] at h1
    rw [ey] at h2
    refine ⟨a', q, _, l, h1, ⟨h2, ?_, ?_, ?_, ?_, ?_⟩, hq⟩
    · exact hV.ext fun j g1 g2 => by rw [zrow_hi _ _ (by omega), zempty_lo _ _ _ _ (by omega) (by omega) (by omega)]
    · exact hQ.ext (by rw [zrow_hi _ _ (by omega), zempty_lo _ _ _ _ (by omega) (by omega) (by omega)]; exact Nat.le_refl _) k4 fun j g1 g2 => by rw [zrow_hi _ _ (by omega), zempty_lo _ _ _ _ (by omega) (by omega) (by omega)]
    · refine hCy.ext fun j g1 g2 => ?_
      rw [zrow_hi _ _ (by omega), ← ey, uN_n (by omega)]
    · exact hL.ext (by rw [zrow_hi _ _ (by omega), zempty_lo _ _ _ _ (by omega) (by omega) (by omega)]) fun j g1 => by
        rw [zrow_hi _ _ (by omega), zempty_hi _ _ _ _ g1 hr]
    · rw [zrow_hi _ _ (by omega), zempty_lo _ _ _ _ (by omega) (by omega) (by omega)]; exact hT
  · rw [if_neg (by rw [fI_ap, e2, li_0, nI_le31 (by omega) (by omega)]; omega), if_neg h]
    have f0 : q 0 = z 42 := hQ 0 0 (by omega) (by omega)
    have f1 : q 1 = z 43 := hQ 0 1 (by omega) (by omega)
    have f2 : q 2 = z 44 := hQ 0 2 (by omega) (by omega)
    have f3 : q 3 = z 45 := hQ 0 3 (by omega) (by omega)
    have h45 : z 45 ≤ 1 := by have := k5 0 (by omega); simpa using this
    have rd : ∀ x, x < 4 → fX3_read (nI 4) 68 (fI q) (nI 0) (nI x) = some (nI (q x)) := fun x hx => by
      have := tb_read 4 68 (by omega) q 0 x (by omega)
      rw [Nat.zero_mul, Nat.zero_add] at this
      exact this
    unfold fX2_showFirstWaiting
    rw [li_0, li_1, li_2, li_3, li_4]
    rw [rd 2 (by omega), ob1_ev, tb_write 3 96 (by omega) c _ 0 _ (by omega), ob1_ev, rd 0 (by omega), ob1_ev, tb_write 3 96 (by omega) _ _ 1 _ (by omega), ob1_ev, rd 1 (by omega), ob1_ev, tb_write 3 96 (by omega) _ _ 2 _ (by omega), ob1_ev, rd 3 (by omega), ob1_ev, f0, f1, f2, f3]
    have hC1 := hC.write (z 15) (z 44) (z 42) (z 43) hr
    -- the state without the count of rows, and without what is told of the first line
    obtain ⟨y, hy⟩ : ∃ y, y = uN (uN (uN (uN z (106 + 3 * z 15) (z 44)) (106 + 3 * z 15 + 1) (z 42)) (106 + 3 * z 15 + 2) (z 43)) 45 (z 45 + 1) := ⟨_, rfl⟩
    have ylo : ∀ j, j < 106 → j ≠ 45 → y j = z j := fun j h1 h2 => by rw [hy]; simp (disch := omega) only [uN_s, uN_n]
    have ey : uN y 13 (y 13 + 1) = zfirst z (z 15) := by
      rw [ylo 13 (by omega) (by omega), hy]
      unfold zfirst
      funext j
      simp only [uN]
      repeat' split
      all_goals first | rfl | omega
    have hCy : RC (uN (uN (uN c (z 15 * 3 + 0) (z 44)) (z 15 * 3 + 1) (z 42)) (z 15 * 3 + 2) (z 43)) y := hC1.ext fun j g1 g2 => by rw [hy, uN_n (by omega)]
    have hylt : ∀ k, y k < 4294967296 := by
      rw [hy]
      exact lt_uN (lt_uN (lt_uN (lt_uN k1 _ _ (k1 44)) _ _ (k1 42)) _ _ (k1 43)) _ _ (by omega)
    have hAy : RA a y := hA.ext fun j hj => ylo j (by omega) (by omega)
    by_cases h0 : z 45 = 0
    · rw [if_pos (by rw [h0]), if_neg (by omega)]
      have hwq : fX3_write (nI 4) 68 (fI q) (nI 0) (nI 3) (nI 1) = some (fI (uN q 3 1)) := by
        have := tb_write 4 68 (by omega) q 0 3 1 (by omega)
        rw [Nat.zero_mul, Nat.zero_add] at this
        exact this
      rw [hwq, ob1_ev, ob3_ev]
      obtain ⟨a', h1, h2⟩ := row52_c a _ y (fI (uN q 3 1)) (fI l) hylt hAy hCy (by rw [ylo 4 (by omega) (by omega)]; exact k2) (by rw [ylo 15 (by omega) (by omega), ylo 4 (by omega) (by omega)]; exact k3)
      rw [ylo 15 (by omega) (by omega), ylo 4 (by omega) (by omega)] at h1
      rw [ey] at h2
      refine ⟨a', _, _, l, h1, ⟨h2, ?_, ?_, ?_, ?_, ?_⟩, lt_uN hq _ _ (by omega)⟩
      · exact hV.ext fun j g1 g2 => by rw [zrow_hi _ _ (by omega), zfirst_hi _ _ _ (by omega) hr (by omega) (by omega)]
      · intro p x hp hx
        rw [zrow_hi _ _ (by omega), zfirst_hi _ _ _ (by omega) hr (by omega) (by omega)] at hp
        rw [zrow_hi _ _ (by omega)]
        by_cases e : p = 0 ∧ x = 3
        · obtain ⟨rfl, rfl⟩ := e
          show uN q 3 1 3 = zfirst z (z 15) 45
          rw [uN_s]
          unfold zfirst
          rw [uN_s, h0]
        · rw [zfirst_hi _ _ _ (by omega) hr (by omega) (by omega), uN_n (by omega)]
          exact hQ p x hp hx
      · refine hCy.ext fun j g1 g2 => ?_
        rw [zrow_hi _ _ (by omega), ← ey, uN_n (by omega)]
      · exact hL.ext (by rw [zrow_hi _ _ (by omega), zfirst_hi _ _ _ (by omega) hr (by omega) (by omega)]) fun j g1 => by
          rw [zrow_hi _ _ (by omega), zfirst_hi _ _ _ (by omega) hr (by omega) (by omega)]
      · rw [zrow_hi _ _ (by omega), zfirst_hi _ _ _ (by omega) hr (by omega) (by omega)]; exact hT
    · rw [if_neg (by rw [nI_eq32 (by omega) (by omega)]; exact h0), if_pos (by omega)]
      have hrm := rm_c q 0 (by omega)
      rw [li_4] at hrm
      rw [hrm, ob1_ev, fI_ap, nI_sub (by omega), upd_fI, nm_ev, fI_ap, uN_n (show 3 ≠ 2 by omega), nI_add, upd_fI, nm_ev, ob3_ev]
      have e3 : a 3 = z 11 := hA 3 (by omega)
      -- the state with the line gone, without the count of rows
      obtain ⟨x, hx⟩ : ∃ x, x = zleave (uN y 11 (z 11 + 1)) 0 := ⟨_, rfl⟩
      have xlo : ∀ j, j < 42 → j ≠ 10 → j ≠ 11 → x j = z j := fun j g1 g2 g3 => by
        rw [hx]
        simp only [zleave, zlvF]
        rw [if_neg (by omega), uN_n g2, uN_n g3, ylo j (by omega) (by omega)]
      have x10 : x 10 = z 10 - 1 := by
        rw [hx]
        simp only [zleave, zlvF]
        rw [if_neg (by omega), uN_s, uN_n (by omega), ylo 10 (by omega) (by omega)]
      have x11 : x 11 = z 11 + 1 := by
        rw [hx]
        simp only [zleave, zlvF]
        rw [if_neg (by omega), uN_n (by omega), uN_s]
      have xhi : ∀ j, 106 ≤ j → x j = y j := fun j g1 => by
        rw [hx]
        simp only [zleave, zlvF]
        rw [uN_s, uN_n (show 10 ≠ 11 by omega), ylo 10 (by omega) (by omega), if_neg (by omega), uN_n (by omega), uN_n (by omega)]
      have ex : uN x 13 (x 13 + 1) = zleave (uN (zfirst z (z 15)) 11 (z 11 + 1)) 0 := by
        rw [xlo 13 (by omega) (by omega) (by omega), hx, ← ey, ylo 13 (by omega) (by omega)]
        funext j
        simp only [zleave, zlvF]
        by_cases e13 : j = 13
        · subst e13
          rw [uN_s, if_neg (by omega), uN_n (by omega), uN_n (by omega), uN_s]
        · rw [uN_n e13]
          simp only [zlvF, uN]
          repeat' split
          all_goals first | rfl | omega
      have hAx : RA (uN (uN a 2 (z 10 - 1)) 3 (a 3 + 1)) x := by
        rw [e3]
        refine ((hAy.up 2 (z 10 - 1) (by omega) (m := 10) rfl).up 3 (z 11 + 1) (by omega) (m := 11) rfl).ext fun j hj => ?_
        by_cases e11 : j = 11
        · subst e11
          rw [x11, uN_s]
        · rw [uN_n e11]
          by_cases e10 : j = 10
          · subst e10
            rw [x10, uN_s]
          · rw [uN_n e10, xlo j (by omega) e10 e11, ylo j (by omega) (by omega)]
      have hCx : RC (uN (uN (uN c (z 15 * 3 + 0) (z 44)) (z 15 * 3 + 1) (z 42)) (z 15 * 3 + 2) (z 43)) x := hCy.ext fun j g1 g2 => xhi j g1
      have hxlt : ∀ k, x k < 4294967296 := by
        rw [hx]
        refine zlvF_lt (lt_uN (lt_uN hylt _ _ (by omega)) _ _ ?_) _
        rw [uN_n (by omega), ylo 10 (by omega) (by omega)]
        omega
      have eqa : uN (uN a 2 (a 2 - 1)) 3 (a 3 + 1) = uN (uN a 2 (z 10 - 1)) 3 (a 3 + 1) := by rw [e2]
      rw [eqa]
      obtain ⟨a', h1, h2⟩ := row52_c _ _ x (fI (rmF q 0)) (fI l) hxlt hAx hCx (by rw [xlo 4 (by omega) (by omega) (by omega)]; exact k2) (by rw [xlo 15 (by omega) (by omega) (by omega), xlo 4 (by omega) (by omega) (by omega)]; exact k3)
      rw [xlo 15 (by omega) (by omega) (by omega), xlo 4 (by omega) (by omega) (by omega)] at h1
      have fin : ∀ j, j ≠ 13 → zleave (uN (zfirst z (z 15)) 11 (z 11 + 1)) 0 j = x j := fun j hj => by rw [← ex, uN_n hj]
      rw [ex] at h2
      refine ⟨a', _, _, l, h1, ⟨h2, ?_, ?_, ?_, ?_, ?_⟩, rmF_lt hq 0⟩
      · exact hV.ext fun j g1 g2 => by rw [zrow_hi _ _ (by omega), fin j (by omega), xlo j g2 (by omega) (by omega)]
      · intro p u hp hu
        rw [zrow_hi _ _ (by omega), fin 10 (by omega), x10] at hp
        rw [zrow_hi _ _ (by omega), fin _ (by omega), hx]
        simp only [zleave, zlvF]
        rw [uN_s, uN_n (show 10 ≠ 11 by omega), ylo 10 (by omega) (by omega), if_pos (by omega), uN_n (by omega), uN_n (by omega), ylo _ (by omega) (by omega)]
        simp only [rmF]
        rw [if_pos (by omega)]
        have := hQ (p + 1) u (by omega) hu
        rw [show (p + 1) * 4 + u = p * 4 + u + 4 by omega, show 42 + 4 * (p + 1) + u = 42 + 4 * p + u + 4 by omega] at this
        exact this
      · refine hCx.ext fun j g1 g2 => ?_
        rw [zrow_hi _ _ (by omega), fin j (by omega)]
      · exact hL.ext (by rw [zrow_hi _ _ (by omega), fin 12 (by omega), xlo 12 (by omega) (by omega) (by omega)]) fun j g1 => by
          rw [zrow_hi _ _ (by omega), fin j (by omega), xhi j (by omega), hy]
          simp (disch := omega) only [uN_s, uN_n]
      · rw [zrow_hi _ _ (by omega), fin 25 (by omega), xlo 25 (by omega) (by omega) (by omega)]; exact hT
