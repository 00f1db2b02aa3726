/-! ===== a tick keeps it ===== -/
theorem ZI.low {T B e1 e2 d : Nat} {z : Nat → Nat} (h : ZI T B e1 e2 d z) : z 10 ≤ 16 ∧ z 24 ≤ 8 ∧ z 16 < z 4 ∧ z 15 < 2 * z 4 ∧ z 10 ≤ z 3 ∧ z 3 ≤ 16 ∧ z 4 ≤ 16 ∧ 2 ≤ z 4 ∧ z 7 ≤ 255 := by
  obtain ⟨h1, ⟨s1, s2, s3, s4, s5, s6, s7, s8, s9, s10, s11, s12⟩, ⟨c1, c2, c3, c4, c5, c6, c7, c8, c9, c10⟩, h4, h5, ⟨d1, d2, d3, d4, d5, d6⟩⟩ := h
  refine ⟨by omega, ?_, c7, c6, c3, s6, s8, s7, s11⟩
  rw [c9]
  split <;> omega
theorem PJ.come {T B M : Nat} {z : Nat → Nat} (hI : ZI T B 0 0 0 z) (h : PJ 0 0 M z) (hM : M = z 9) : PJ 0 0 (M + 1) (zcome z) ∧ zcome z 9 = M + 1 := by
  obtain ⟨b10, b24, b16, b15, b3, c3, b4, -, -⟩ := hI.low
  have u : ∀ j, j ≠ 9 → uN z 9 (z 9 + 1) j = z j := fun j hj => uN_n hj
  have u9 : uN z 9 (z 9 + 1) 9 = z 9 + 1 := uN_s
  have hn : z 17 * z 4 + z 16 = M := by
    have := h.1
    unfold P1 at this
    omega
  have hc := h.came b10 b24
  have adv : ∀ y : Nat → Nat, PJ 1 0 (M + 1) y → y 10 ≤ 16 → y 24 ≤ 8 → y 16 = z 16 → y 4 = z 4 → y 9 = z 9 + 1 → PJ 0 0 (M + 1) (zadv y) ∧ zadv y 9 = M + 1 := by
    intro y hy g1 g2 g3 g4 g5
    refine ⟨hy.adv g1 g2 (by rw [g3, g4]; exact b16), ?_⟩
    rw [zadv_hi _ _ (by omega) (by omega) (by omega), g5, hM]
  unfold zcome
  by_cases hr : z 10 < z 3
  · rw [if_pos hr]
    have lo : ∀ j, j < 42 → j ≠ 10 → j ≠ 9 → zqueue (uN z 9 (z 9 + 1)) j = z j := fun j g1 g2 g3 => by rw [zqueue_lo _ _ g1 g2, u j g3]
    have a10 : zqueue (uN z 9 (z 9 + 1)) 10 = z 10 + 1 := by
      rw [zqueue_ap, if_pos rfl, u 10 (by omega)]
    refine adv _ (hc.queue (by rw [u 17 (by omega), u 4 (by omega), u 16 (by omega)]; exact hn) (by rw [u 10 (by omega)]; omega) (by rw [u 24 (by omega)]; exact b24) (by rw [u 16 (by omega), u 4 (by omega)]; exact b16)) (by rw [a10]; omega) (by rw [lo _ (by omega) (by omega) (by omega)]; exact b24) (lo _ (by omega) (by omega) (by omega)) (lo _ (by omega) (by omega) (by omega)) (by rw [zqueue_lo _ _ (by omega) (by omega), u9])
  · rw [if_neg hr]
    have hk : ∀ k, (if z 5 = 1 then zff z 0 (z 10) else none) = some k → k < z 10 := by
      intro k hk
      split at hk
      · obtain ⟨-, g, -, -⟩ := zff_lt _ _ _ _ hk
        omega
      · cases hk
    cases hm : (if z 5 = 1 then zff z 0 (z 10) else none) with
    | none =>
      have lo : ∀ j, j < 42 → j ≠ 9 → j ≠ 12 → j ≠ 24 → zmiss (uN z 9 (z 9 + 1)) (z 17) (z 16) 0 j = z j := fun j g1 g2 g3 g4 => by rw [zmiss_mid _ _ _ _ _ (by omega) g3 g4, u j g2]
      have hx := hc.miss (by rw [u 17 (by omega), u 4 (by omega), u 16 (by omega)]; exact hn) (by rw [u 10 (by omega)]; exact b10) (by rw [u 24 (by omega)]; exact b24)
      rw [u 17 (by omega), u 16 (by omega)] at hx
      refine adv _ hx (by rw [lo _ (by omega) (by omega) (by omega) (by omega)]; exact b10) ?_ (lo _ (by omega) (by omega) (by omega) (by omega)) (lo _ (by omega) (by omega) (by omega) (by omega)) (by rw [zmiss_mid _ _ _ _ _ (by omega) (by omega) (by omega), u9])
      rw [zmiss_24, u 24 (by omega)]
      split <;> omega
    | some k =>
      have hk := hk k hm
      have lo : ∀ j, j < 42 → j ≠ 10 → j ≠ 12 → j ≠ 24 → j ≠ 9 → zlose (uN z 9 (z 9 + 1)) k 1 j = z j := fun j g1 g2 g3 g4 g5 => by rw [zlose_lo _ _ _ _ g1 g2 g3 g4, u j g5]
      have a10 : zlose (uN z 9 (z 9 + 1)) k 1 10 = z 10 - 1 := by rw [zlose_10, u 10 (by omega)]
      have a24 : zlose (uN z 9 (z 9 + 1)) k 1 24 ≤ 8 := by
        rw [zlose_24, u 24 (by omega)]
        split <;> omega
      have hl := hc.lose (by rw [u 10 (by omega)]; exact b10) (by rw [u 24 (by omega)]; exact b24) k 1 (by rw [u 10 (by omega)]; exact hk) (by omega)
      have hq := hl.queue (by rw [lo 17 (by omega) (by omega) (by omega) (by omega) (by omega), lo 4 (by omega) (by omega) (by omega) (by omega) (by omega), lo 16 (by omega) (by omega) (by omega) (by omega) (by omega)]; exact hn) (by rw [a10]; omega) a24 (by rw [lo 16 (by omega) (by omega) (by omega) (by omega) (by omega), lo 4 (by omega) (by omega) (by omega) (by omega) (by omega)]; exact b16)
      refine adv _ hq ?_ (by rw [zqueue_lo _ _ (by omega) (by omega)]; exact a24) (by rw [zqueue_lo _ _ (by omega) (by omega)]; exact lo 16 (by omega) (by omega) (by omega) (by omega) (by omega)) (by rw [zqueue_lo _ _ (by omega) (by omega)]; exact lo 4 (by omega) (by omega) (by omega) (by omega) (by omega)) ?_
      · rw [zqueue_ap, if_pos rfl, a10]
        omega
      · rw [zqueue_lo _ _ (by omega) (by omega), zlose_lo _ _ _ _ (by omega) (by omega) (by omega) (by omega), u9]
theorem P5.le {e : Nat} {z : Nat → Nat} (h : P5 e z) : z 15 + e ≤ z 13 ∧ (z 13 < 2 * z 4 → z 13 = z 15 + e) := by
  obtain ⟨h1, h2⟩ := h
  generalize z 20 + z 21 + z 22 = S at h1 h2
  refine ⟨by omega, fun g => ?_⟩
  rcases h2 with ⟨s0, -⟩ | ⟨s0, -⟩
  · rw [s0, Nat.zero_mul] at h1
    omega
  · have : 2 * z 4 ≤ S * (2 * z 4) := Nat.le_mul_of_pos_left _ s0
    omega
theorem PJ.row {M : Nat} {z : Nat → Nat} (h : PJ 0 1 M z) (h10 : z 10 ≤ 16) (h24 : z 24 ≤ 8) (h15 : z 15 < 2 * z 4) : PJ 0 0 M (zrow z) := by
  have lo : ∀ j, j < 15 ∨ 23 < j ∨ (15 < j ∧ j < 19) → zrow z j = z j := fun j g => zrow_hi z j g
  obtain ⟨a1, a2, a3, a4, a5, a6⟩ := h
  refine ⟨a1.ext (lo _ (by omega)) (lo _ (by omega)) (lo _ (by omega)) (lo _ (by omega)), a2.ext h10 (lo _ (by omega)) (lo _ (by omega)) (fun j g1 g2 => lo j (by omega)), a3.ext h24 (lo _ (by omega)) (lo _ (by omega)) (by rw [lo _ (by omega)]; exact Nat.le_refl _) (fun j g1 => lo j (by omega)), a4.ext (lo _ (by omega)) (lo _ (by omega)) (lo _ (by omega)) (lo _ (by omega)) (lo _ (by omega)) (lo _ (by omega)), ?_, a6.ext (lo _ (by omega)) (lo _ (by omega)) (fun j g1 g2 => lo j (by omega))⟩
  obtain ⟨b1, b2⟩ := a5
  unfold P5
  rw [lo 13 (by omega), lo 4 (by omega)]
  have hj := zjudge_le (uN z 15 0)
  unfold zrow zend
  by_cases g : z 15 + 1 < 2 * z 4
  · rw [if_pos g]
    simp (disch := omega) only [uN_s, uN_n]
    exact ⟨by omega, b2⟩
  · rw [if_neg g]
    generalize zjudge (uN z 15 0) = k at hj ⊢
    have hs : uN (uN (uN (uN z 15 0) 23 k) (20 + k) (z (20 + k) + 1)) 19 (uN (uN (uN z 15 0) 23 k) (20 + k) (z (20 + k) + 1) 19 + uN (uN (uN z 15 0) 23 k) (20 + k) (z (20 + k) + 1) 2) 20 + uN (uN (uN (uN z 15 0) 23 k) (20 + k) (z (20 + k) + 1)) 19 (uN (uN (uN z 15 0) 23 k) (20 + k) (z (20 + k) + 1) 19 + uN (uN (uN z 15 0) 23 k) (20 + k) (z (20 + k) + 1) 2) 21 + uN (uN (uN (uN z 15 0) 23 k) (20 + k) (z (20 + k) + 1)) 19 (uN (uN (uN z 15 0) 23 k) (20 + k) (z (20 + k) + 1) 19 + uN (uN (uN z 15 0) 23 k) (20 + k) (z (20 + k) + 1) 2) 22 = (z 20 + z 21 + z 22) + 1 := by
      rcases (show k = 0 ∨ k = 1 ∨ k = 2 by omega) with rfl | rfl | rfl <;> simp (disch := omega) only [uN_s, uN_n, Nat.reduceAdd, Nat.add_zero] <;> omega
    have h15' : uN (uN (uN (uN z 15 0) 23 k) (20 + k) (z (20 + k) + 1)) 19 (uN (uN (uN z 15 0) 23 k) (20 + k) (z (20 + k) + 1) 19 + uN (uN (uN z 15 0) 23 k) (20 + k) (z (20 + k) + 1) 2) 15 = 0 := by
      simp (disch := omega) only [uN_s, uN_n]
    have h23' : uN (uN (uN (uN z 15 0) 23 k) (20 + k) (z (20 + k) + 1)) 19 (uN (uN (uN z 15 0) 23 k) (20 + k) (z (20 + k) + 1) 19 + uN (uN (uN z 15 0) 23 k) (20 + k) (z (20 + k) + 1) 2) 23 = k := by
      simp (disch := omega) only [uN_s, uN_n]
    rw [hs, h15', h23', Nat.succ_mul]
    exact ⟨by omega, Or.inr ⟨by omega, hj⟩⟩
/-- a row is written -/
theorem P6.write {z y : Nat → Nat} (h : P6 z) (h5 : P5 0 z) (h15 : z 15 < 2 * z 4) (e4 : y 4 = z 4) (e13 : y 13 = z 13 + 1) (hr : rowOK (y (106 + 3 * z 15 + 0)) (y (106 + 3 * z 15 + 1)) (y (106 + 3 * z 15 + 2))) (e : ∀ j, 106 ≤ j → j < 202 → (j < 106 + 3 * z 15 ∨ 106 + 3 * z 15 + 3 ≤ j) → y j = z j) : P6 y := by
  obtain ⟨l1, l2⟩ := h5.le
  intro r hr32
  by_cases g : r = z 15
  · subst g
    exact ⟨fun q => by omega, fun _ _ => hr⟩
  · rw [e4, e13, e _ (by omega) (by omega) (by omega), e _ (by omega) (by omega) (by omega), e _ (by omega) (by omega) (by omega)]
    obtain ⟨k1, k2⟩ := h r hr32
    exact ⟨fun q => k1 (by omega), fun q1 q2 => k2 (by
      by_cases q3 : r < z 13
      · exact q3
      · have := l2 (by omega)
        omega) q2⟩
theorem PJ.show {T B M e1 : Nat} {z : Nat → Nat} (hI : ZI T B e1 0 0 z) (h : PJ 0 0 M z) (hM : M ≤ 200000) : PJ 0 0 M (zshow z (z 15)) := by
  obtain ⟨b10, b24, b16, b15, b3, c3, b4, d4, b7⟩ := hI.low
  have hr : z 15 < 32 := by omega
  have hI5 : ∀ p, p < z 10 → z (42 + 4 * p + 3) ≤ 1 := hI.2.2.2.2.1
  obtain ⟨a1, a2, a3, a4, a5, a6⟩ := h
  -- a state that differs in the row's cells, in 13, 14, and the lines that wait
  have key : ∀ y : Nat → Nat, (∀ j, j < 42 → j ≠ 10 → j ≠ 11 → j ≠ 13 → j ≠ 14 → y j = z j) → (∀ j, 202 ≤ j → y j = z j) → y 13 = z 13 + 1 → y 10 ≤ 16 → P2 M y → P4 y → rowOK (y (106 + 3 * z 15 + 0)) (y (106 + 3 * z 15 + 1)) (y (106 + 3 * z 15 + 2)) → (∀ j, 106 ≤ j → j < 202 → (j < 106 + 3 * z 15 ∨ 106 + 3 * z 15 + 3 ≤ j) → y j = z j) → PJ 0 0 M (zrow y) := by
    intro y ylo yhi y13 y10 y2 y4 yr ye
    have l : ∀ j, j < 42 → j ≠ 10 → j ≠ 11 → j ≠ 13 → j ≠ 14 → y j = z j := ylo
    refine PJ.row ⟨a1.ext (l _ (by omega) (by omega) (by omega) (by omega) (by omega)) (l _ (by omega) (by omega) (by omega) (by omega) (by omega)) (l _ (by omega) (by omega) (by omega) (by omega) (by omega)) (l _ (by omega) (by omega) (by omega) (by omega) (by omega)), y2, a3.ext b24 (l _ (by omega) (by omega) (by omega) (by omega) (by omega)) (l _ (by omega) (by omega) (by omega) (by omega) (by omega)) (by rw [l 0 (by omega) (by omega) (by omega) (by omega) (by omega)]; exact Nat.le_refl _) yhi, y4, ?_, a6.write a5 b15 (l _ (by omega) (by omega) (by omega) (by omega) (by omega)) y13 yr ye⟩ y10 (by rw [l 24 (by omega) (by omega) (by omega) (by omega) (by omega)]; exact b24) (by rw [l 15 (by omega) (by omega) (by omega) (by omega) (by omega), l 4 (by omega) (by omega) (by omega) (by omega) (by omega)]; exact b15)
    obtain ⟨q1, q2⟩ := a5
    unfold P5
    rw [y13, l 4 (by omega) (by omega) (by omega) (by omega) (by omega), l 15 (by omega) (by omega) (by omega) (by omega) (by omega), l 20 (by omega) (by omega) (by omega) (by omega) (by omega), l 21 (by omega) (by omega) (by omega) (by omega) (by omega), l 22 (by omega) (by omega) (by omega) (by omega) (by omega), l 23 (by omega) (by omega) (by omega) (by omega) (by omega)]
    exact ⟨by omega, q2⟩
  unfold zshow
  by_cases h0 : z 10 = 0
  · rw [if_pos h0]
    unfold zempty
    obtain ⟨w, hw⟩ : ∃ w, w = NON := ⟨_, rfl⟩
    rw [← hw]
    have lo : ∀ j, j < 106 → j ≠ 13 → j ≠ 14 → zemptyW z (z 15) w j = z j := fun j g1 g2 g3 => zempty_lo z (z 15) w j g1 g2 g3
    have e13 : zemptyW z (z 15) w 13 = z 13 + 1 := by simp (disch := omega) only [zemptyW, uN_s, uN_n]
    have e14 : zemptyW z (z 15) w 14 = z 14 + 1 := by simp (disch := omega) only [zemptyW, uN_s, uN_n]
    refine key _ (fun j g1 g2 g3 g4 g5 => lo j (by omega) g4 g5) (fun j g => zempty_hi z _ w j g hr) e13 (by rw [lo 10 (by omega) (by omega) (by omega)]; exact b10) (a2.ext b10 (lo _ (by omega) (by omega) (by omega)) (lo _ (by omega) (by omega) (by omega)) (fun j g1 g2 => lo j (by omega) (by omega) (by omega))) ?_ ?_ ?_
    · unfold P4 at a4 ⊢
      rw [gone_ext (lo 10 (by omega) (by omega) (by omega)) (lo 45 (by omega) (by omega) (by omega)), e13, e14, lo 11 (by omega) (by omega) (by omega), lo 12 (by omega) (by omega) (by omega)]
      omega
    · have k0 : zemptyW z (z 15) w (106 + 3 * z 15 + 0) = z 7 := by
        unfold zemptyW
        rw [uN_n (by omega), uN_n (by omega), uN_n (by omega), uN_n (by omega), show 106 + 3 * z 15 + 0 = 106 + 3 * z 15 from rfl, uN_s]
      have k1 : zemptyW z (z 15) w (106 + 3 * z 15 + 1) = w := by
        unfold zemptyW
        rw [uN_n (by omega), uN_n (by omega), uN_n (by omega), uN_s]
      have k2 : zemptyW z (z 15) w (106 + 3 * z 15 + 2) = w := by
        unfold zemptyW
        rw [uN_n (by omega), uN_n (by omega), uN_s]
      rw [k0, k1, k2]
      exact ⟨b7, Or.inl ⟨hw, hw⟩⟩
    · intro j g1 g2 g3
      unfold zemptyW
      rw [uN_n (by omega), uN_n (by omega), uN_n (by omega), uN_n (by omega), uN_n (by omega)]
  · rw [if_neg h0]
    have h45 : z 45 ≤ 1 := by have := hI5 0 (by omega); simpa using this
    have lo : ∀ j, j < 106 → j ≠ 13 → j ≠ 45 → zfirst z (z 15) j = z j := fun j g1 g2 g3 => zfirst_hi z (z 15) j (by omega) hr g2 g3
    have hi : ∀ j, 202 ≤ j → zfirst z (z 15) j = z j := fun j g1 => zfirst_hi z (z 15) j (by omega) hr (by omega) (by omega)
    have f45 : zfirst z (z 15) 45 = z 45 + 1 := by unfold zfirst; rw [uN_s]
    have f13 : zfirst z (z 15) 13 = z 13 + 1 := by simp (disch := omega) only [zfirst, uN_s, uN_n]
    have fo : ∀ j, 106 ≤ j → j < 202 → (j < 106 + 3 * z 15 ∨ 106 + 3 * z 15 + 3 ≤ j) → zfirst z (z 15) j = z j := by
      intro j g1 g2 g3
      unfold zfirst
      rw [uN_n (by omega), uN_n (by omega), uN_n (by omega), uN_n (by omega), uN_n (by omega)]
    have k0 : zfirst z (z 15) (106 + 3 * z 15 + 0) = z 44 := by
      unfold zfirst
      rw [uN_n (by omega), uN_n (by omega), uN_n (by omega), uN_n (by omega), show 106 + 3 * z 15 + 0 = 106 + 3 * z 15 from rfl, uN_s]
    have k1 : zfirst z (z 15) (106 + 3 * z 15 + 1) = z 42 := by
      unfold zfirst
      rw [uN_n (by omega), uN_n (by omega), uN_n (by omega), uN_s]
    have k2 : zfirst z (z 15) (106 + 3 * z 15 + 2) = z 43 := by
      unfold zfirst
      rw [uN_n (by omega), uN_n (by omega), uN_s]
    have hrow : rowOK (z 44) (z 42) (z 43) := by
      obtain ⟨q1, q2, q3, q4⟩ := a2.1 0 (by omega)
      have q1 : z 43 < z 4 := q1
      have q2 : z 44 < 256 := q2
      have q3 : z 42 * z 4 + z 43 < M := q3
      have : z 42 ≤ z 42 * z 4 := Nat.le_mul_of_pos_right _ (by omega)
      exact ⟨by omega, Or.inr ⟨by omega, by omega⟩⟩
    have g0 : gone z = z 45 := by unfold gone; rw [if_neg h0]
    by_cases h2' : z 45 + 1 = 2
    · rw [if_pos h2']
      have zl : ∀ j, j < 42 → j ≠ 10 → zleave (uN (zfirst z (z 15)) 11 (z 11 + 1)) 0 j = uN (zfirst z (z 15)) 11 (z 11 + 1) j := fun j g1 g2 => by
        simp only [zleave, zlvF]
        rw [if_neg (by omega), uN_n g2]
      have z10 : zleave (uN (zfirst z (z 15)) 11 (z 11 + 1)) 0 10 = z 10 - 1 := by
        simp only [zleave, zlvF]
        rw [if_neg (by omega), uN_s, uN_n (by omega), lo 10 (by omega) (by omega) (by omega)]
      have zq : ∀ i c, c < 4 → i < z 10 - 1 → zleave (uN (zfirst z (z 15)) 11 (z 11 + 1)) 0 (42 + 4 * i + c) = z (42 + 4 * (i + 1) + c) := by
        intro i c hc hi'
        simp only [zleave, zlvF]
        rw [uN_s, uN_n (show 10 ≠ 11 by omega), lo 10 (by omega) (by omega) (by omega), if_pos (by omega), uN_n (by omega), uN_n (by omega), lo _ (by omega) (by omega) (by omega)]
        congr 1
        omega
      have zh : ∀ j, 106 ≤ j → zleave (uN (zfirst z (z 15)) 11 (z 11 + 1)) 0 j = zfirst z (z 15) j := by
        intro j hj
        simp only [zleave, zlvF]
        rw [uN_s, uN_n (show 10 ≠ 11 by omega), lo 10 (by omega) (by omega) (by omega), if_neg (by omega), uN_n (by omega), uN_n (by omega)]
      have z4 : zleave (uN (zfirst z (z 15)) 11 (z 11 + 1)) 0 4 = z 4 := by rw [zl 4 (by omega) (by omega), uN_n (by omega), lo 4 (by omega) (by omega) (by omega)]
      have z13 : zleave (uN (zfirst z (z 15)) 11 (z 11 + 1)) 0 13 = z 13 + 1 := by rw [zl 13 (by omega) (by omega), uN_n (by omega), f13]
      have z14 : zleave (uN (zfirst z (z 15)) 11 (z 11 + 1)) 0 14 = z 14 := by rw [zl 14 (by omega) (by omega), uN_n (by omega), lo 14 (by omega) (by omega) (by omega)]
      have z12 : zleave (uN (zfirst z (z 15)) 11 (z 11 + 1)) 0 12 = z 12 := by rw [zl 12 (by omega) (by omega), uN_n (by omega), lo 12 (by omega) (by omega) (by omega)]
      have z11 : zleave (uN (zfirst z (z 15)) 11 (z 11 + 1)) 0 11 = z 11 + 1 := by rw [zl 11 (by omega) (by omega), uN_s]
      have en : ∀ i, i < z 10 - 1 → nbw (zleave (uN (zfirst z (z 15)) 11 (z 11 + 1)) 0) i = nbw z (i + 1) := fun i hi' => by
        unfold nbw
        rw [zq i 0 (by omega) hi', zq i 1 (by omega) hi', z4]
      refine key _ (fun j g1 g2 g3 g4 g5 => by rw [zl j g1 g2, uN_n g3, lo j (by omega) g4 (by omega)]) (fun j g => by rw [zh j (by omega), hi j g]) z13 (by rw [z10]; omega) ⟨fun p hp => ?_, fun p q hpq hq => ?_⟩ ?_ (by rw [zh _ (by omega), zh _ (by omega), zh _ (by omega), k0, k1, k2]; exact hrow) (fun j g1 g2 g3 => by rw [zh j g1]; exact fo j g1 g2 g3)
      · rw [z10] at hp
        obtain ⟨q1, q2, q3, q4⟩ := a2.1 (p + 1) (by omega)
        rw [en p hp, z4, zq p 1 (by omega) hp, zq p 2 (by omega) hp, zq p 3 (by omega) hp]
        exact ⟨q1, q2, q3, fun _ => q4 (by omega)⟩
      · rw [z10] at hq
        rw [en p (by omega), en q hq]
        exact a2.2 _ _ (by omega) (by omega)
      · have eg : gone (zleave (uN (zfirst z (z 15)) 11 (z 11 + 1)) 0) = 0 := by
          unfold gone
          rw [z10]
          by_cases g1 : z 10 - 1 = 0
          · rw [if_pos g1]
          · rw [if_neg g1]
            have := zq 0 3 (by omega) (by omega)
            have q4 := (a2.1 1 (by omega)).2.2.2 (by omega)
            exact this.trans q4
        unfold P4 at a4 ⊢
        rw [eg, z11, z12, z13, z14]
        omega
    · rw [if_neg h2']
      have en : ∀ p, p < z 10 → nbw (zfirst z (z 15)) p = nbw z p := fun p hp => by
        unfold nbw
        rw [lo 4 (by omega) (by omega) (by omega), lo _ (by omega) (by omega) (by omega), lo _ (by omega) (by omega) (by omega)]
      have l10 := lo 10 (by omega) (by omega) (by omega)
      refine key _ (fun j g1 g2 g3 g4 g5 => lo j (by omega) g4 (by omega)) hi f13 (by rw [l10]; exact b10) ⟨fun p hp => ?_, fun p q hpq hq => ?_⟩ ?_ (by rw [k0, k1, k2]; exact hrow) fo
      · rw [l10] at hp
        obtain ⟨q1, q2, q3, q4⟩ := a2.1 p hp
        rw [en p hp, lo 4 (by omega) (by omega) (by omega), lo (42 + 4 * p + 1) (by omega) (by omega) (by omega), lo (42 + 4 * p + 2) (by omega) (by omega) (by omega)]
        refine ⟨q1, q2, q3, fun g => ?_⟩
        rw [lo _ (by omega) (by omega) (by omega)]
        exact q4 g
      · rw [l10] at hq
        rw [en p (by omega), en q hq]
        exact a2.2 p q hpq hq
      · have eg : gone (zfirst z (z 15)) = z 45 + 1 := by
          unfold gone
          rw [l10, if_neg h0, f45]
        unfold P4 at a4 ⊢
        rw [eg, f13, lo 11 (by omega) (by omega) (by omega), lo 12 (by omega) (by omega) (by omega), lo 14 (by omega) (by omega) (by omega)]
        omega
theorem PJ.skip {T B e1 : Nat} (hT : T ≤ 150000) (he : e1 ≤ 1) {M : Nat} : ∀ (n : Nat) (z : Nat → Nat), ZI T B e1 0 0 z → PJ 0 0 M z → PJ 0 0 M (zskip z n) := by
  intro n
  induction n with
  | zero => intro z hI h; exact h
  | succ n ih =>
    intro z hI h
    unfold zskip
    split
    · exact h
    · rename_i hc
      have h0 : z 10 ≠ 0 := fun e => hc (Or.inl e)
      obtain ⟨b10, b24, -⟩ := hI.low
      exact ih _ (hI.lose hT he 0 2 (by omega) (by omega)) (h.lose b10 b24 0 2 (by omega) (by omega))
theorem PJ.out {T B e1 M : Nat} {z : Nat → Nat} (hT : T ≤ 150000) (he : e1 ≤ 1) (hI : ZI T B e1 0 0 z) (h : PJ 0 0 M z) (hM : M ≤ 200000) : PJ 0 0 M (zout z) := by
  unfold zout
  by_cases hc : z 6 = 1 ∧ z 15 = 0
  · rw [if_pos hc]
    have e15 : zskip z (z 10) 15 = z 15 := zskip_lo 15 (by omega) (by omega) (by omega) (by omega) _ _
    have := PJ.show (ZI.skip hT he (z 10) z hI) (PJ.skip hT he (z 10) z hI h) hM
    rw [e15] at this
    exact this
  · rw [if_neg hc]
    exact PJ.show hI h hM
theorem PJ.end2 {d e M : Nat} {z : Nat → Nat} (h : PJ d e M z) (h10 : z 10 ≤ 16) (h24 : z 24 ≤ 8) : PJ d e M (zend2 z) := by
  have lo : ∀ j, j ≠ 0 → j ≠ 25 → zend2 z j = z j := fun j g1 g2 => by unfold zend2; rw [uN_n g2, uN_n g1]
  have a0 : zend2 z 0 = z 0 + 1 := by unfold zend2; rw [uN_n (by omega), uN_s]
  exact h.ext h10 h24 (by rw [a0]; omega) (fun j g1 g2 => lo j (by omega) (by omega)) (fun j g1 g2 => lo j (by omega) (by omega)) (lo 4 (by omega) (by omega)) (fun j g => lo j (by omega) (by omega))
/-- what holds of a state between two calls -/
def PI (z : Nat → Nat) : Prop := PJ 0 0 (z 9) z
