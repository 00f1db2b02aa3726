/-! ===== the law's first check answers 1 ===== -/
theorem ne10 : ¬ (1 : Int32) = 0 := by decide
theorem lines_tail {a q z : Nat → Nat} {T B : Nat} (hA : RA a z) (hI : ZI T B 0 0 0 z) (h : PI z) (pl hs : Int32) : fL_lines_174 (fI a) (fI q) pl hs 1 = some 1 := by
  obtain ⟨b10, b24, b16, b15, b3, c3, b4, -, -⟩ := hI.low
  have h1 := h.1
  unfold P1 at h1
  unfold fL_lines_174
  rw [if_neg ne10, cn_2 hA, ob1_ev, wt_no hA b10, ob1_ev, if_pos rfl, cn_9 hA, ob1_ev, cn_19 hA, ob1_ev, cn_8 hA, ob1_ev, cn_1 hA, ob1_ev, pk_mul, nI_add, if_pos (by rw [show z 17 * z 4 + z 16 = z 9 by omega])]
theorem lines_loop {a q z : Nat → Nat} {T B : Nat} (hA : RA a z) (hQ : RQ q z) (hI : ZI T B 0 0 0 z) (hT : T ≤ 150000) (h : PI z) (pl hs : Int32) : ∀ (n k : Nat) (x2 : Int32), k ≤ z 10 → z 10 < n + k → ((k = 0 ∧ x2 = -1) ∨ (0 < k ∧ x2 = nI (nbw z (k - 1)))) → fL_lines_49 n (fI a) (fI q) pl hs 1 x2 (nI k) = some 1 := by
  obtain ⟨b10, b24, b16, b15, b3, c3, b4, -, -⟩ := hI.low
  have b9 : z 9 ≤ 150000 := by
    obtain ⟨h1, -, ⟨c1, c2, -⟩, h4, h5, ⟨d1, d2, -⟩⟩ := hI
    omega
  have hI5 : ∀ p, p < z 10 → z (42 + 4 * p + 3) ≤ 1 := hI.2.2.2.2.1
  obtain ⟨-, ⟨h2, h2'⟩, -⟩ := id h
  intro n
  induction n with
  | zero => intro k x2 g1 g2; omega
  | succ n ih =>
    intro k x2 g1 g2 hx
    show fL_lines_49_b (fL_lines_49 n) (fI a) (fI q) pl hs 1 x2 (nI k) = some 1
    unfold fL_lines_49_b
    rw [cn_2 hA, ob1_ev]
    by_cases hk : k < z 10
    · obtain ⟨q1, q2, q3, q4⟩ := h2 k hk
      have q5 := hI5 k hk
      have hnx : ¬ nI (nbw z k) ≤ x2 := by
        rcases hx with ⟨-, rfl⟩ | ⟨k0, rfl⟩
        · intro g
          rw [Int32.le_iff_toInt_le, nI_toInt (by omega)] at g
          have : (-1 : Int32).toInt = -1 := by decide
          omega
        · have := h2' (k - 1) k (by omega) hk
          exact n_le (by omega) (by omega) this
      have go : fL_lines_49 n (fI a) (fI q) pl hs 1 (nI (nbw z k)) (nI (k + 1)) = some 1 := ih (k + 1) _ (by omega) (by omega) (Or.inr ⟨by omega, rfl⟩)
      have e2 := wt_2 hA hQ b10 k hk
      have t0 : ¬ nI (z (42 + 4 * k + 2)) < 0 := nI_pos (by omega)
      have t256 : ¬ 256 ≤ nI (z (42 + 4 * k + 2)) := by
        rw [li_256]
        exact n_le (by omega) (by omega) q2
      rw [if_neg (n_le (by omega) (by omega) hk), if_neg ne10, wt_0 hA hQ b10 k hk, ob1_ev, cn_19 hA, ob1_ev, wt_1 hA hQ b10 k hk, ob1_ev, nm_ev, pk_mul, nI_add, show z (42 + 4 * k + 0) * z 4 + z (42 + 4 * k + 1) = nbw z k from rfl, if_neg hnx, cn_1 hA, ob1_ev, if_neg (n_le (by omega) (by omega) q3), ob1_ev, ob1_ev, if_neg (n_le (by omega) (by omega) q1), wt_3 hA hQ b10 k hk, ob1_ev, if_neg (by rw [li_2]; exact n_le (by omega) (by omega) (by omega))]
      by_cases k0 : k = 0
      · rw [if_pos (by rw [k0]; rfl), e2, ob1_ev, if_neg t0, ob1_ev, if_neg t256, nm_ev, nI_1]
        exact go
      · rw [if_neg (nI_ne0 (by omega) (by omega)), ob1_ev, if_pos (by rw [q4 (by omega)]; rfl), e2, ob1_ev, if_neg t0, ob1_ev, if_neg t256, nm_ev, nI_1]
        exact go
    · rw [if_pos ((nI_le31 (by omega) (by omega)).2 (by omega))]
      exact lines_tail hA hI h pl hs
theorem lines_ev {a q z : Nat → Nat} {T B : Nat} (hA : RA a z) (hQ : RQ q z) (hI : ZI T B 0 0 0 z) (hT : T ≤ 150000) (h : PI z) (pl hs : Int32) : fL_lines (fI a) (fI q) pl hs = some 1 := by
  obtain ⟨b10, b24, b16, b15, b3, c3, b4, -, -⟩ := hI.low
  obtain ⟨-, -, ⟨c1, -⟩, -⟩ := id hI
  unfold fL_lines
  rw [cn_1 hA, ob1_ev, cn_2 hA, ob1_ev, cn_3 hA, ob1_ev, cn_4 hA, ob1_ev, nI_add, nI_add, if_pos (by rw [show z 9 = z 10 + z 11 + z 12 by omega]), ob1_ev, cn_18 hA, ob1_ev, if_neg (n_lt (by omega) (by omega) b3)]
  unfold fL_lines_45
  rw [nm_ev]
  exact lines_loop hA hQ hI hT h pl hs KF 0 (-1) (by omega) (by rw [KF_eq]; omega) (Or.inl ⟨rfl, rfl⟩)
