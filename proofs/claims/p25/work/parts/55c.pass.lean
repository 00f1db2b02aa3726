/-! ===== ticks, flush, settings keep it ===== -/
theorem zout_9 (z : Nat → Nat) (hr : z 15 < 32) : zout z 9 = z 9 := by
  have sh : ∀ y : Nat → Nat, y 15 = z 15 → zshow y (y 15) 9 = y 9 := by
    intro y hy
    unfold zshow
    split
    · rw [zrow_hi _ _ (by omega)]
      exact zempty_lo y _ _ 9 (by omega) (by omega) (by omega)
    · split
      · rw [zrow_hi _ _ (by omega)]
        simp only [zleave, zlvF]
        rw [if_neg (by omega), uN_n (by omega), uN_n (by omega)]
        exact zfirst_hi y _ 9 (by omega) (by omega) (by omega) (by omega)
      · rw [zrow_hi _ _ (by omega)]
        exact zfirst_hi y _ 9 (by omega) (by omega) (by omega) (by omega)
  unfold zout
  split
  · have e15 : zskip z (z 10) 15 = z 15 := zskip_lo 15 (by omega) (by omega) (by omega) (by omega) _ _
    have := sh _ e15
    rw [e15] at this
    rw [this]
    exact zskip_lo 9 (by omega) (by omega) (by omega) (by omega) _ _
  · exact sh z rfl
theorem PI.tick {T B : Nat} {z : Nat → Nat} (hT : T ≤ 150000) (hB : 200000 ≤ B) (hI : ZI T B 0 0 0 z) (h : PI z) : PI (ztick z) := by
  have b9 : z 9 ≤ 150000 := by
    obtain ⟨h1, -, ⟨c1, c2, -⟩, h4, h5, ⟨d1, d2, -⟩⟩ := hI
    omega
  have end9 : ∀ y : Nat → Nat, zend2 y 9 = y 9 := fun y => by unfold zend2; rw [uN_n (by omega), uN_n (by omega)]
  have two : ∀ (e1 : Nat) (y : Nat → Nat), e1 ≤ 1 → ZI T B e1 0 0 y → PJ 0 0 (y 9) y → y 9 ≤ 200000 → PI (ztick2 y) := by
    intro e1 y he hy g g9
    obtain ⟨b10, b24, -, b15, -, -, b4, -, -⟩ := hy.low
    unfold ztick2
    split
    · rename_i h19
      obtain ⟨o1, -⟩ := hy.out h19 hT hB he
      obtain ⟨o10, o24, -⟩ := o1.low
      have := (PJ.out hT he hy g g9).end2 o10 o24
      unfold PI
      rw [end9, zout_9 y (by omega)]
      exact this
    · unfold PI
      rw [end9]
      exact g.end2 b10 b24
  unfold ztick
  split
  · rename_i h18
    obtain ⟨c1, -⟩ := hI.come h18 hT hB
    obtain ⟨c2, c9⟩ := PJ.come hI h rfl
    refine two 1 _ (by omega) c1 ?_ (by rw [c9]; omega)
    rw [c9]
    exact c2
  · exact two 0 z (by omega) hI h (by omega)
theorem PI.pass {B : Nat} (hB : 200000 ≤ B) : ∀ (n T : Nat) (z : Nat → Nat), ZI T B 0 0 0 z → T + n ≤ 150001 → PI z → PI (zpass z n) := by
  intro n
  induction n with
  | zero => intro T z hI hT h; exact h
  | succ n ih =>
    intro T z hI hT h
    exact ih (T + 1) (ztick z) (hI.tick (by omega) hB) (by omega) (h.tick (by omega) hB hI)
theorem PI.flush {T B : Nat} (hT : T ≤ 150000) : ∀ (n : Nat) (z : Nat → Nat), ZI T B 0 0 0 z → z 10 = n → PI z → PI (zflush z n) := by
  intro n
  induction n with
  | zero => intro z hI hn h; exact h
  | succ n ih =>
    intro z hI hn h
    obtain ⟨b10, b24, -⟩ := hI.low
    have e9 : zlose z 0 2 9 = z 9 := zlose_lo z 0 2 9 (by omega) (by omega) (by omega) (by omega)
    refine ih _ (hI.lose hT (by omega) 0 2 (by omega) (by omega)) (by rw [zlose_10]; omega) ?_
    unfold PI
    rw [e9]
    exact PJ.lose h b10 b24 0 2 (by omega) (by omega)
theorem PI.up {T B : Nat} {z : Nat → Nat} (hI : ZI T B 0 0 0 z) (h : PI z) (k x : Nat) (hk : k < 4 ∨ 5 ≤ k ∧ k < 9 ∨ 18 ≤ k ∧ k < 20 ∨ 25 ≤ k ∧ k < 42) (hk0 : k ≠ 0) : PI (uN z k x) := by
  obtain ⟨b10, b24, -⟩ := hI.low
  unfold PI
  rw [uN_n (show 9 ≠ k by omega)]
  exact PJ.ext h b10 b24 (by rw [uN_n (by omega)]; exact Nat.le_refl _) (fun j g1 g2 => uN_n (by omega)) (fun j g1 g2 => uN_n (by omega)) (uN_n (by omega)) (fun j g => uN_n (by omega))
theorem PI.height {T B : Nat} {z : Nat → Nat} (hI : ZI T B 0 0 0 z) (h : PI z) (h0 : z 0 = 0) (x : Nat) : PI (uN z 4 x) := by
  obtain ⟨h1, ⟨s1, s2, s3, s4, s5, s6, s7, s8, s9, s10, s11, s12⟩, ⟨c1, c2, c3, c4, c5, c6, c7, c8, c9, c10⟩, h4, h5, ⟨d1, d2, d3, d4, d5, d6⟩⟩ := hI
  obtain ⟨a1, a2, a3, a4, a5, a6⟩ := h
  have e : ∀ j, j ≠ 4 → uN z 4 x j = z j := fun j g => uN_n g
  have z9 : z 9 = 0 := by omega
  have z13 : z 13 = 0 := by omega
  have z24 : z 24 = 0 := by rw [c9, show z 12 = 0 by omega]; rfl
  unfold P1 at a1
  have z17 : z 17 = 0 := by
    apply Classical.byContradiction
    intro g
    have : z 4 ≤ z 17 * z 4 := Nat.le_mul_of_pos_left _ (by omega)
    omega
  have z16 : z 16 = 0 := by omega
  refine ⟨?_, ⟨fun p hp => ?_, fun p q hpq hq => ?_⟩, fun j hj => ?_, a4.ext (e _ (by omega)) (e _ (by omega)) (e _ (by omega)) (e _ (by omega)) (e _ (by omega)) (e _ (by omega)), ?_, ?_⟩
  · unfold P1
    rw [e 17 (by omega), e 16 (by omega), e 9 (by omega), z17, z16, z9, Nat.zero_mul]
  · rw [e 10 (by omega)] at hp
    omega
  · rw [e 10 (by omega)] at hq
    omega
  · rw [e 24 (by omega)] at hj
    omega
  · obtain ⟨q1, q2⟩ := a5
    unfold P5
    rw [e 13 (by omega), e 20 (by omega), e 21 (by omega), e 22 (by omega), e 15 (by omega), e 23 (by omega)]
    refine ⟨?_, q2⟩
    rw [show z 20 + z 21 + z 22 = 0 by omega, Nat.zero_mul]
    omega
  · intro r hr
    rw [e 13 (by omega), e _ (by omega), e _ (by omega), e _ (by omega)]
    exact ⟨(a6 r hr).1, fun g => by omega⟩
theorem PI.agree {z z' : Nat → Nat} {T B : Nat} (hI : ZI T B 0 0 0 z) (h : PI z) (hz : ∀ j, j < 234 → z' j = z j) : PI z' := by
  obtain ⟨b10, b24, -, -, -, -, b4, -, -⟩ := hI.low
  obtain ⟨a1, a2, a3, a4, a5, a6⟩ := h
  have e : ∀ j, j < 234 → z' j = z j := hz
  unfold PI
  rw [e 9 (by omega)]
  refine ⟨a1.ext (e _ (by omega)) (e _ (by omega)) (e _ (by omega)) (e _ (by omega)), a2.ext b10 (e _ (by omega)) (e _ (by omega)) (fun j g1 g2 => e j (by omega)), fun j hj => ?_, a4.ext (e _ (by omega)) (e _ (by omega)) (e _ (by omega)) (e _ (by omega)) (e _ (by omega)) (e _ (by omega)), a5.ext (e _ (by omega)) (e _ (by omega)) (e _ (by omega)) (e _ (by omega)) (e _ (by omega)) (e _ (by omega)) (e _ (by omega)), a6.ext (e _ (by omega)) (e _ (by omega)) (fun j g1 g2 => e j (by omega))⟩
  rw [e 24 (by omega)] at hj
  unfold nbm
  rw [e 0 (by omega), e 4 (by omega), e _ (by omega), e _ (by omega), e _ (by omega), e _ (by omega), e (202 + 4 * (j - 1) + 3) (by omega)]
  exact a3 j hj
