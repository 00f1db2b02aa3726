/-! ===== a line comes: both sides ===== -/
theorem RV.ext {v z z' : Nat → Nat} (h : RV v z) (hz : ∀ j, 26 ≤ j → j < 42 → z' j = z j) : RV v z' := fun k hk => (h k hk).trans (hz _ (by omega) (by omega)).symm
theorem RC.ext {c z z' : Nat → Nat} (h : RC c z) (hz : ∀ j, 106 ≤ j → j < 202 → z' j = z j) : RC c z' := fun k hk => (h k hk).trans (hz _ (by omega) (by omega)).symm
theorem RQ.ext {q z z' : Nat → Nat} (h : RQ q z) (h10 : z' 10 ≤ z 10) (hl : z 10 ≤ 16) (hz : ∀ j, 42 ≤ j → j < 106 → z' j = z j) : RQ q z' := fun p x hp hx => (h p x (by omega) hx).trans (hz _ (by omega) (by omega)).symm
theorem zadv_hi (z : Nat → Nat) (j : Nat) (h16 : j ≠ 16) (h17 : j ≠ 17) (h18 : j ≠ 18) : zadv z j = z j := by
  unfold zadv
  split <;> simp only [uN, if_neg h16, if_neg h17, if_neg h18]
theorem zmiss_mid (z : Nat → Nat) (p l w j : Nat) (h : j < 202) (h12 : j ≠ 12) (h24 : j ≠ 24) : zmiss z p l w j = z j := by
  simp only [zmiss, zmissF]
  rw [if_neg (by omega), if_neg (by omega), if_neg (by omega), if_neg (by omega), if_neg (by omega), if_neg h24, if_neg h12]
theorem zmiss_mid' (z : Nat → Nat) (p l w j : Nat) (h : j < 24) : zmiss z p l w j = if j = 12 then z 12 + 1 else z j := by
  by_cases e : j = 12
  · subst e
    simp [zmiss, zmissF]
  · rw [if_neg e]
    exact zmiss_mid z p l w j (by omega) e (by omega)
theorem zqueue_hi (z : Nat → Nat) (j : Nat) (h10 : z 10 ≤ 15) (h : 106 ≤ j) : zqueue z j = z j := by
  simp only [zqueue]
  rw [if_neg (by omega), if_neg (by omega), if_neg (by omega), if_neg (by omega), if_neg (by omega)]
theorem appF_lt {q : Nat → Nat} (hq : ∀ j, q j < 4294967296) (w p l t : Nat) (hp : p < 4294967296) (hl : l < 4294967296) (ht : t < 4294967296) : ∀ j, appF q w p l t j < 4294967296 := by
  unfold appF
  exact lt_uN (lt_uN (lt_uN (lt_uN hq _ _ hp) _ _ hl) _ _ ht) _ _ (by omega)
theorem rmF_lt {q : Nat → Nat} (hq : ∀ j, q j < 4294967296) (p : Nat) : ∀ j, rmF q p j < 4294967296 := by
  intro j
  simp only [rmF]
  split
  · exact hq _
  · exact hq _
/-- what a line that comes needs of the state -/
def KC (z : Nat → Nat) : Prop := (∀ k, z k < 4294967296) ∧ z 3 ≤ 16 ∧ 1 ≤ z 3 ∧ z 10 ≤ z 3 ∧ z 16 ≤ 15 ∧ z 4 ≤ 16 ∧ (∀ k, k < 16 → z (26 + k) ≤ 255) ∧ z 8 ≤ 255 ∧ z 17 ≤ 2000000 ∧ z 24 ≤ 8 ∧ z 9 ≤ 2000000 ∧ z 12 ≤ 2000000
theorem comes_zK (z : Nat → Nat) (h : KC z) : fX5_comes (fI z) = some (fI (zcome z)) := by
  obtain ⟨k1, k2, k3, k4, k5, k6, k7, k8, k9, k10, k11, k12⟩ := h
  exact comes_z z k1 k2 (by omega) k3 k4 k5 k6 (k7 _ (by omega)) k8 k9 k10 k11
theorem comes_c (a v q c l : Nat → Nat) (t : Nat) (z : Nat → Nat) (hR : RZ a v q c l t z) (hq : ∀ j, q j < 4294967296) (hK : KC z) : ∃ a' q' l', fX2_lineComes (fI a) (fI v) (fI q) (fI l) = some (fI a', fI q', fI l') ∧ RZ a' v q' c l' t (zcome z) ∧ ∀ j, q' j < 4294967296 := by
  obtain ⟨hA, hV, hQ, hC, hL, hT⟩ := hR
  obtain ⟨k1, k2, k3, k4, k5, k6, k7, k8, k9, k10, k11, k12⟩ := hK
  have e1 : a 1 = z 9 := hA 1 (by omega)
  have e2 : a 2 = z 10 := hA 2 (by omega)
  have e0 : a 0 = z 0 := hA 0 (by omega)
  have e4 : a 4 = z 12 := hA 4 (by omega)
  have e8 : a 8 = z 16 := hA 8 (by omega)
  have e9 : a 9 = z 17 := hA 9 (by omega)
  have e18 : a 18 = z 3 := hA 18 (by omega)
  have e19 : a 19 = z 4 := hA 19 (by omega)
  have e20 : a 20 = z 5 := hA 20 (by omega)
  have e23 : a 23 = z 8 := hA 23 (by omega)
  have ev : v (z 16) = z (26 + z 16) := hV _ (by omega)
  have hm : z 8 * z 17 ≤ 255 * 2000000 := Nat.mul_le_mul k8 k9
  have hv := k7 (z 16) (by omega)
  have k5z := k1 5
  -- the state behind 'came'
  have hA1 : RA (uN a 1 (a 1 + 1)) (uN z 9 (z 9 + 1)) := by rw [e1]; exact hA.up 1 _ (by omega) rfl
  obtain ⟨z1, hz1⟩ : ∃ z1, z1 = uN z 9 (z 9 + 1) := ⟨_, rfl⟩
  have zl : ∀ j, j ≠ 9 → z1 j = z j := fun j hj => by rw [hz1, uN_n hj]
  have hz1lt : ∀ k, z1 k < 4294967296 := by rw [hz1]; exact lt_uN k1 _ _ (by omega)
  rw [← hz1] at hA1
  have hQ1 : RQ q z1 := fun p x hp hx => by
    rw [zl 10 (by omega)] at hp
    rw [zl _ (by omega)]
    exact hQ p x hp hx
  have hL1 : RM l z1 := fun j x h1 h2 h3 => by
    rw [zl 12 (by omega)] at h2 ⊢
    rw [zl _ (by omega)]
    exact hL j x h1 h2 h3
  have hV1 : RV v z1 := hV.ext fun j h1 h2 => zl j (by omega)
  have hC1 : RC c z1 := hC.ext fun j h1 h2 => zl j (by omega)
  -- the line waits
  have hn := next_c (uN a 1 (a 1 + 1)) v q (by rw [uN_n (by omega)]; omega) (by rw [uN_n (by omega)]; omega) (by rw [uN_n (by omega), uN_n (by omega), uN_n (by omega), e8, e23, e9, ev]; omega)
  simp (disch := omega) only [uN_s, uN_n, e2, e9, e8, e23, ev] at hn
  obtain ⟨q1, hq1⟩ : ∃ q1, q1 = appF q (z 10) (z 17) (z 16) ((z (26 + z 16) + z 8 * z 17) % 256) := ⟨_, rfl⟩
  have hq1lt : ∀ j, q1 j < 4294967296 := by rw [hq1]; exact appF_lt hq _ _ _ _ (k1 _) (k1 _) (by omega)
  rw [← hq1] at hn
  have eT : (z (26 + z 16) + z 8 * z 17) % 256 = (z1 (26 + z1 16) + z1 8 * z1 17) % 256 := by
    rw [zl 16 (by omega), zl 8 (by omega), zl 17 (by omega), zl _ (by omega)]
  unfold fX2_lineComes
  rw [fI_ap, li_1, nI_add, upd_fI, nm_ev, hn, ob2_ev, set_2, ob1_ev, fI_ap, uN_s, uN_n (show 18 ≠ 2 by omega), uN_n (show 18 ≠ 1 by omega), e18]
  unfold zcome
  rw [← hz1]
  by_cases hr : z 10 < z 3
  · rw [if_pos (by rw [nI_le31 (by omega) (by omega)]; omega), if_pos hr]
    rw [adv_c _ _ _ _ (by rw [uN_n (by omega), uN_n (by omega)]; omega) (by rw [uN_n (by omega), uN_n (by omega)]; omega)]
    refine ⟨_, _, _, rfl, ⟨?_, ?_, ?_, ?_, ?_, ?_⟩, hq1lt⟩
    · have h1 := hA1.queue
      rw [uN_n (show 2 ≠ 1 by omega), e2] at h1
      exact h1.adv
    · exact hV1.ext fun j h1 h2 => by rw [zadv_hi _ _ (by omega) (by omega) (by omega), zqueue_lo _ _ h2 (by omega)]
    · have h1 := hQ1.app (by rw [zl 10 (by omega)]; omega)
      rw [← eT, zl 10 (by omega), zl 17 (by omega), zl 16 (by omega), ← hq1] at h1
      intro p x hp hx
      rw [zadv_hi _ _ (by omega) (by omega) (by omega)] at hp ⊢
      exact h1 p x hp hx
    · exact hC1.ext fun j h1 h2 => by rw [zadv_hi _ _ (by omega) (by omega) (by omega), zqueue_hi _ _ (by rw [zl 10 (by omega)]; omega) h1]
    · refine hL1.ext ?_ fun j hj => ?_
      · rw [zadv_hi _ _ (by omega) (by omega) (by omega), zqueue_lo _ _ (by omega) (by omega)]
      · rw [zadv_hi _ _ (by omega) (by omega) (by omega), zqueue_hi _ _ (by rw [zl 10 (by omega)]; omega) (by omega)]
    · rw [zadv_hi _ _ (by omega) (by omega) (by omega), zqueue_lo _ _ (by omega) (by omega), zl 25 (by omega)]; exact hT
  · have hr2 : z 10 = z 3 := by omega
    rw [if_neg (by rw [nI_le31 (by omega) (by omega)]; omega), if_neg hr]
    rw [nI_sub (by omega), nm_ev, set_4, ob1_ev, uN_n (show 20 ≠ 2 by omega), uN_n (show 20 ≠ 1 by omega), e20]
    rw [show z 10 + 1 - 1 = z 10 by omega]
    -- the line itself is missing
    have hmiss : ∃ a' q' l', (ob3 (fX2_loseWaiting (fI (uN (uN a 1 (a 1 + 1)) 2 (z 10 + 1))) (fI q1) (fI l) (nI (z 10)) 0) fun nu_14 qu_15 lo_16 => fX2_lineComes_70 nu_14 (fI v) qu_15 lo_16) = some (fI a', fI q', fI l') ∧ RZ a' v q' c l' t (zadv (zmiss z1 (z 17) (z 16) 0)) ∧ ∀ j, q' j < 4294967296 := by
      rw [li_0, lose_c _ _ _ _ _ (by omega) (by rw [uN_s]; omega) (by rw [uN_n (by omega), uN_n (by omega)]; omega), ob3_ev]
      rw [adv_c _ _ _ _ (by simp (disch := omega) only [closeA, uN_s, uN_n]; omega) (by simp (disch := omega) only [closeA, uN_s, uN_n]; omega)]
      refine ⟨_, _, _, rfl, ⟨?_, ?_, ?_, ?_, ?_, ?_⟩, rmF_lt hq1lt _⟩
      · refine RA.adv ?_
        have h1 : RA (uN (uN a 1 (a 1 + 1)) 4 (a 4 + 1)) (zmiss z1 (z 17) (z 16) 0) := by
          refine (hA1.up 4 (a 4 + 1) (by omega) (m := 12) rfl).ext fun j hj => ?_
          rw [zmiss_mid' z1 _ _ _ _ hj]
          simp only [uN]
          rw [e4, zl 12 (by omega)]
        intro j hj
        rw [← h1 j hj]
        simp only [closeA, uN]
        by_cases j2 : j = 2
        · subst j2
          simp [e2]
        · rw [if_neg j2]
          by_cases j4 : j = 4
          · subst j4
            simp
          · rw [if_neg j4, if_neg j4, if_neg j2]
      · exact hV1.ext fun j h1 h2 => by rw [zadv_hi _ _ (by omega) (by omega) (by omega), zmiss_mid _ _ _ _ _ (by omega) (by omega) (by omega)]
      · intro p x hp hx
        rw [zadv_hi _ _ (by omega) (by omega) (by omega), zmiss_10, zl 10 (by omega)] at hp
        rw [zadv_hi _ _ (by omega) (by omega) (by omega), zmiss_mid _ _ _ _ _ (by omega) (by omega) (by omega), ← hQ1 p x (by rw [zl 10 (by omega)]; exact hp) hx]
        simp only [rmF]
        rw [if_neg (by omega), hq1]
        simp only [appF, uN]
        rw [if_neg (by omega), if_neg (by omega), if_neg (by omega), if_neg (by omega)]
      · exact hC1.ext fun j h1 h2 => by rw [zadv_hi _ _ (by omega) (by omega) (by omega), zmiss_mid _ _ _ _ _ (by omega) (by omega) (by omega)]
      · have h1 := hL1.miss (z 17) (z 16) 0
        have g0 : q1 (z 10 * 4 + 0) = z 17 := by rw [hq1]; simp only [appF, uN]; rw [if_neg (by omega), if_neg (by omega), if_neg (by omega), if_pos trivial]
        have g1 : q1 (z 10 * 4 + 1) = z 16 := by rw [hq1]; simp only [appF, uN]; rw [if_neg (by omega), if_neg (by omega), if_pos trivial]
        rw [g0, g1, uN_n (show 4 ≠ 2 by omega), uN_n (show 4 ≠ 1 by omega), uN_n (show 0 ≠ 2 by omega), uN_n (show 0 ≠ 1 by omega), e4, e0]
        rw [zl 12 (by omega), zl 0 (by omega)] at h1
        exact h1.ext (by rw [zadv_hi _ _ (by omega) (by omega) (by omega)]) fun j hj => by rw [zadv_hi _ _ (by omega) (by omega) (by omega)]
      · rw [zadv_hi _ _ (by omega) (by omega) (by omega), zmiss_mid _ _ _ _ _ (by omega) (by omega) (by omega), zl 25 (by omega)]; exact hT
    by_cases h5 : z 5 = 1
    · rw [if_pos (by rw [nI_eq32 (by omega) (by omega)]; exact h5), if_pos h5]
      rw [first_c _ _ hq1lt (by rw [uN_s]; omega) (by rw [uN_s]; omega), ob1_ev, uN_s, show z 10 + 1 - 1 = z 10 by omega]
      have hf := fno_zff q1 z (z 10) 0 (fun p h1 h2 => by
        rw [← hQ p 3 (by omega) (by omega), hq1]
        simp only [appF, uN]
        rw [if_neg (by omega), if_neg (by omega), if_neg (by omega), if_neg (by omega)])
      cases hk : zff z 0 (z 10) with
      | none =>
        rw [hk] at hf
        have hf : fno q1 0 (z 10) = z 10 := hf.trans (Nat.zero_add _)
        rw [hf, if_pos rfl]
        exact hmiss
      | some k =>
        rw [hk] at hf
        have hf : fno q1 0 (z 10) = k := hf
        obtain ⟨-, hk1, -, -⟩ := zff_lt _ _ _ _ hk
        rw [hf, if_neg (by rw [nI_eq32 (by omega) (by omega)]; omega)]
        dsimp only
        rw [lose_c _ _ _ _ _ (by omega) (by rw [uN_s]; omega) (by rw [uN_n (by omega), uN_n (by omega)]; omega), ob3_ev]
        rw [adv_c _ _ _ _ (by simp (disch := omega) only [closeA, uN_s, uN_n]; omega) (by simp (disch := omega) only [closeA, uN_s, uN_n]; omega)]
        obtain ⟨z2, hz2⟩ : ∃ z2, z2 = zlose z1 k 1 := ⟨_, rfl⟩
        have z2lo : ∀ j, j < 42 → j ≠ 10 → j ≠ 12 → j ≠ 24 → z2 j = z1 j := fun j h1 h2 h3 h4 => by rw [hz2, zlose_lo _ _ _ _ h1 h2 h3 h4]
        have z210 : z2 10 = z 10 - 1 := by rw [hz2, zlose_10, zl 10 (by omega)]
        rw [← hz2]
        refine ⟨_, _, _, rfl, ⟨?_, ?_, ?_, ?_, ?_, ?_⟩, rmF_lt hq1lt _⟩
        · refine RA.adv ?_
          have h1 : RA (uN (closeA (uN a 1 (a 1 + 1))) 2 (z2 10 + 1)) (zqueue z2) := by
            have h2 := (hA1.lose k 1).queue
            rw [← hz2] at h2
            have e : closeA (uN a 1 (a 1 + 1)) 2 = z2 10 := by
              rw [z210]
              simp (disch := omega) only [closeA, uN_s, uN_n]
              rw [e2]
            rw [e] at h2
            exact h2
          have e : uN (closeA (uN a 1 (a 1 + 1))) 2 (z2 10 + 1) = closeA (uN (uN a 1 (a 1 + 1)) 2 (z 10 + 1)) := by
            funext j
            rw [z210]
            by_cases j2 : j = 2
            · subst j2
              simp [closeA, uN]
              omega
            · simp [closeA, uN, j2]
          rw [← e]
          exact h1
        · exact hV1.ext fun j h1 h2 => by rw [zadv_hi _ _ (by omega) (by omega) (by omega), zqueue_lo _ _ h2 (by omega), z2lo _ h2 (by omega) (by omega) (by omega)]
        · intro p x hp hx
          rw [zadv_hi _ _ (by omega) (by omega) (by omega)] at hp ⊢
          have e10 : zqueue z2 10 = z 10 := by simp only [zqueue, if_pos]; rw [z210]; omega
          rw [e10] at hp
          have f17 : z2 17 = z 17 := by rw [z2lo 17 (by omega) (by omega) (by omega) (by omega), zl 17 (by omega)]
          have f16 : z2 16 = z 16 := by rw [z2lo 16 (by omega) (by omega) (by omega) (by omega), zl 16 (by omega)]
          have f8 : z2 8 = z 8 := by rw [z2lo 8 (by omega) (by omega) (by omega) (by omega), zl 8 (by omega)]
          have fv : z2 (26 + z 16) = z (26 + z 16) := by rw [z2lo _ (by omega) (by omega) (by omega) (by omega), zl _ (by omega)]
          by_cases hpl : p < z 10 - 1
          · have g : zqueue z2 (42 + 4 * p + x) = z2 (42 + 4 * p + x) := by
              simp only [zqueue, z210]
              rw [if_neg (by omega), if_neg (by omega), if_neg (by omega), if_neg (by omega), if_neg (by omega)]
            rw [g, hz2, zlose_q _ _ _ _ _ hx (by omega) (by rw [zl 10 (by omega)]; omega), zl 10 (by omega)]
            simp only [rmF]
            by_cases hpk : k ≤ p
            · rw [if_pos (by omega), if_pos (by omega), zl _ (by omega), ← hQ (p + 1) x (by omega) hx, hq1]
              simp only [appF, uN]
              rw [if_neg (by omega), if_neg (by omega), if_neg (by omega), if_neg (by omega)]
              congr 1
              omega
            · rw [if_neg (by omega), if_neg (by omega), zl _ (by omega), ← hQ p x (by omega) hx, hq1]
              simp only [appF, uN]
              rw [if_neg (by omega), if_neg (by omega), if_neg (by omega), if_neg (by omega)]
          · have hpe : p = z 10 - 1 := by omega
            simp only [rmF]
            rw [if_pos (by omega), hq1]
            simp only [appF, uN, zqueue, z210, f17, f16, f8, fv]
            rcases (show x = 0 ∨ x = 1 ∨ x = 2 ∨ x = 3 by omega) with rfl | rfl | rfl | rfl
            · rw [if_neg (by omega), if_neg (by omega), if_neg (by omega), if_pos (by omega), if_neg (by omega), if_pos (by omega)]
            · rw [if_neg (by omega), if_neg (by omega), if_pos (by omega), if_neg (by omega), if_neg (by omega), if_pos (by omega)]
            · rw [if_neg (by omega), if_pos (by omega), if_neg (by omega), if_neg (by omega), if_neg (by omega), if_pos (by omega)]
            · rw [if_pos (by omega), if_neg (by omega), if_neg (by omega), if_neg (by omega), if_neg (by omega), if_pos (by omega)]
        · exact hC1.ext fun j h1 h2 => by rw [zadv_hi _ _ (by omega) (by omega) (by omega), zqueue_hi _ _ (by rw [z210]; omega) h1, hz2, zlose_sh _ _ _ _ h1 h2 (by rw [zl 10 (by omega)]; omega)]
        · have h1 := hL1.lose (by rw [zl 10 (by omega)]; omega) k 1
          rw [← hz2, zl 12 (by omega), zl 0 (by omega), zl _ (by omega), zl _ (by omega), ← hQ k 0 (by omega) (by omega), ← hQ k 1 (by omega) (by omega)] at h1
          have g0 : q1 (k * 4 + 0) = q (k * 4 + 0) := by rw [hq1]; simp only [appF, uN]; rw [if_neg (by omega), if_neg (by omega), if_neg (by omega), if_neg (by omega)]
          have g1 : q1 (k * 4 + 1) = q (k * 4 + 1) := by rw [hq1]; simp only [appF, uN]; rw [if_neg (by omega), if_neg (by omega), if_neg (by omega), if_neg (by omega)]
          rw [g0, g1, uN_n (show 4 ≠ 2 by omega), uN_n (show 4 ≠ 1 by omega), uN_n (show 0 ≠ 2 by omega), uN_n (show 0 ≠ 1 by omega), e4, e0]
          refine h1.ext ?_ fun j hj => ?_
          · rw [zadv_hi _ _ (by omega) (by omega) (by omega), zqueue_lo _ _ (by omega) (by omega)]
          · rw [zadv_hi _ _ (by omega) (by omega) (by omega), zqueue_hi _ _ (by rw [z210]; omega) (by omega)]
        · rw [zadv_hi _ _ (by omega) (by omega) (by omega), zqueue_lo _ _ (by omega) (by omega), z2lo 25 (by omega) (by omega) (by omega) (by omega), zl 25 (by omega)]; exact hT
    · rw [if_neg (by rw [nI_eq32 (by omega) (by omega)]; exact h5), if_neg h5, if_pos rfl]
      exact hmiss
