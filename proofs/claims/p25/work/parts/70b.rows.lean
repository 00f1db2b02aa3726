/-! ===== the law's second check answers 1 ===== -/
theorem rows_tail {a q c l z : Nat → Nat} {T B : Nat} (hA : RA a z) (hC : RC c z) (hI : ZI T B 0 0 0 z) (hT : T ≤ 150000) (h : PI z) (pl hs : Int32) : fL_rows_408 (fI a) (fI q) (fI c) (fI l) pl hs (nI (z 20 + z 21 + z 22)) 1 (nI (shc z (2 * z 4))) (nI (z 24)) = some 1 := by
  obtain ⟨b10, b24, b16, b15, b3, c3, b4, -, -⟩ := hI.low
  obtain ⟨hz, -, ⟨c1, c2, c3, c4, c5, c6, c7, c8, c9, c10⟩, -, -, ⟨d1, d2, -⟩⟩ := id hI
  have h5 : P5 0 z := h.2.2.2.2.1
  obtain ⟨-, h5⟩ := h5
  unfold fL_rows_408
  rw [if_neg ne10, sh_ev hA hz hC b4, ob1_ev, if_pos rfl, ms_no (fI l) hA (by omega) c9, ob1_ev, if_pos rfl, cn_15 hA, ob1_ev]
  rcases h5 with ⟨g1, g2⟩ | ⟨g1, g2⟩
  · rw [if_pos (by rw [g2]; exact non_6), if_pos (by rw [g1]; rfl)]
  · rw [if_neg (ne_6 (by omega)), if_neg (nI_ne0 g1 (by omega))]
theorem miss_loop {a q c l z : Nat → Nat} {T B : Nat} (hA : RA a z) (hL : RM l z) (hC : RC c z) (hI : ZI T B 0 0 0 z) (hT : T ≤ 150000) (h : PI z) (pl hs : Int32) : ∀ (n k : Nat) (x9 : Int32), k ≤ z 24 → z 24 < n + k → ((k = 0 ∧ x9 = nI (z 0)) ∨ (0 < k ∧ x9 = nI (z (202 + 4 * (k - 1) + 3)))) → fL_rows_311 n (fI a) (fI q) (fI c) (fI l) pl hs (nI (z 20 + z 21 + z 22)) 1 (nI (shc z (2 * z 4))) (nI (z 24)) x9 (nI k) = some 1 := by
  obtain ⟨b10, b24, b16, b15, b3, c3, b4, -, -⟩ := hI.low
  obtain ⟨hz, -, ⟨c1, c2, c3, c4, c5, c6, c7, c8, c9, c10⟩, -, -, ⟨d1, d2, -⟩⟩ := id hI
  have h3 : P3 (z 9) z := h.2.2.1
  have b12 : z 12 < 1000000000 := by omega
  intro n
  induction n with
  | zero => intro k x9 g1 g2; omega
  | succ n ih =>
    intro k x9 g1 g2 hx
    show fL_rows_311_b (fL_rows_311 n) (fI a) (fI q) (fI c) (fI l) pl hs (nI (z 20 + z 21 + z 22)) 1 (nI (shc z (2 * z 4))) (nI (z 24)) x9 (nI k) = some 1
    unfold fL_rows_311_b
    by_cases hk : k < z 24
    · obtain ⟨q1, q2, q3, q4⟩ := h3 k hk
      have go : fL_rows_311 n (fI a) (fI q) (fI c) (fI l) pl hs (nI (z 20 + z 21 + z 22)) 1 (nI (shc z (2 * z 4))) (nI (z 24)) (nI (z (202 + 4 * k + 3))) (nI (k + 1)) = some 1 := ih (k + 1) _ (by omega) (by omega) (Or.inr ⟨by omega, rfl⟩)
      have ht : ¬ x9 < nI (z (202 + 4 * k + 3)) := by
        rcases hx with ⟨-, rfl⟩ | ⟨k0, rfl⟩
        · exact n_lt (by omega) (by omega) q3
        · have q5 := q4 k0
          have q6 := (h3 (k - 1) (by omega)).2.2.1
          exact n_lt (by omega) (by omega) q5
      have e3 := ms_3 hA hL b12 c9 k hk
      have e2 := ms_2 hA hL b12 c9 k hk
      rw [if_neg (n_le (by omega) (by omega) hk), if_neg ne10, e3, ob1_ev, if_neg ht, e2, ob1_ev, if_neg (nI_pos (by omega)), ob1_ev, if_neg (by rw [li_3]; exact n_le (by omega) (by omega) (by omega)), ms_0 hA hL b12 c9 k hk, ob1_ev, cn_19 hA, ob1_ev, ms_1 hA hL b12 c9 k hk, ob1_ev, cn_1 hA, ob1_ev, pk_mul, nI_add, show z (202 + 4 * k + 0) * z 4 + z (202 + 4 * k + 1) = nbm z k from rfl, if_neg (n_le (by omega) (by omega) q1)]
      simp only [ob1_ev, nm_ev, nI_1]
      exact go
    · have ek : k = z 24 := by omega
      rw [if_pos ((nI_le31 (by omega) (by omega)).2 (by omega))]
      exact rows_tail hA hC hI hT h pl hs
theorem rows_279 {a q c l z : Nat → Nat} {T B : Nat} (hA : RA a z) (hL : RM l z) (hC : RC c z) (hI : ZI T B 0 0 0 z) (hT : T ≤ 150000) (h : PI z) (pl hs : Int32) : fL_rows_279 (fI a) (fI q) (fI c) (fI l) pl hs (nI (z 20 + z 21 + z 22)) 1 (nI (shc z (2 * z 4))) = some 1 := by
  obtain ⟨b10, b24, b16, b15, b3, c3, b4, -, -⟩ := hI.low
  obtain ⟨hz, -, ⟨c1, c2, c3, c4, c5, c6, c7, c8, c9, c10⟩, -, -, ⟨d1, d2, -⟩⟩ := id hI
  have e301 : fL_rows_301 (fI a) (fI q) (fI c) (fI l) pl hs (nI (z 20 + z 21 + z 22)) 1 (nI (shc z (2 * z 4))) (nI (z 24)) = some 1 := by
    unfold fL_rows_301
    rw [cn_0 hA, ob1_ev]
    exact miss_loop hA hL hC hI hT h pl hs KF 0 _ (by omega) (by rw [KF_eq]; omega) (Or.inl ⟨rfl, rfl⟩)
  unfold fL_rows_279
  rw [cn_4 hA, ob1_ev]
  by_cases g : z 12 < 8
  · have e24 : z 24 = z 12 := by rw [c9, if_pos g]
    rw [if_neg (by rw [li_8]; exact n_le (by omega) (by omega) g), ob1_ev, ← e24]
    exact e301
  · have e24 : z 24 = 8 := by rw [c9, if_neg g]
    rw [if_pos (by rw [li_8]; exact (nI_le31 (by omega) (by omega)).2 (by omega)), li_8, ← e24]
    exact e301
theorem rows_loop {a q c l z : Nat → Nat} {T B : Nat} (hA : RA a z) (hL : RM l z) (hC : RC c z) (hI : ZI T B 0 0 0 z) (hT : T ≤ 150000) (h : PI z) (pl hs : Int32) : ∀ (n r : Nat), r ≤ 2 * z 4 → 2 * z 4 < n + r → fL_rows_136 n (fI a) (fI q) (fI c) (fI l) pl hs (nI (2 * z 4)) (nI (z 20 + z 21 + z 22)) 1 (nI (shc z r)) (if jbare z r = true then 0 else 1) (nI r) = some 1 := by
  obtain ⟨b10, b24, b16, b15, b3, c3, b4, -, -⟩ := hI.low
  obtain ⟨hz, -, ⟨c1, c2, c3, c4, c5, c6, c7, c8, c9, c10⟩, -, -, ⟨d1, d2, -⟩⟩ := id hI
  have h6 : P6 z := h.2.2.2.2.2
  intro n
  induction n with
  | zero => intro r g1 g2; omega
  | succ n ih =>
    intro r g1 g2
    show fL_rows_136_b (fL_rows_136 n) (fI a) (fI q) (fI c) (fI l) pl hs (nI (2 * z 4)) (nI (z 20 + z 21 + z 22)) 1 (nI (shc z r)) (if jbare z r = true then 0 else 1) (nI r) = some 1
    unfold fL_rows_136_b
    by_cases hr : r < 2 * z 4
    · obtain ⟨k1, k2⟩ := h6 r (by omega)
      have go := ih (r + 1) (by omega) (by omega)
      have s1 : shc z (r + 1) = if jbare z (r + 1) = true then shc z r else shc z r + 1 := rfl
      have x0 : ∀ m : Nat, nI m + 0 = nI m := fun m => by rw [li_0, nI_add]; rfl
      have e1 := rw_1 hA hC b4 r hr
      have e0 := rw_0 hA hC b4 r hr
      have e2 := rw_2 hA hC b4 r hr
      rw [if_neg (n_le (by omega) (by omega) hr), if_neg ne10, e1, ob1_ev]
      have empty : jbare z (r + 1) = true → fL_rows_136 n (fI a) (fI q) (fI c) (fI l) pl hs (nI (2 * z 4)) (nI (z 20 + z 21 + z 22)) 1 (nI (shc z r)) 0 (nI (r + 1)) = some 1 := fun hb => by
        rw [s1, hb, if_pos rfl, if_pos rfl] at go
        exact go
      by_cases hp : r < z 13
      · have p1 : nI r < nI (z 13) := (nI_lt31 (by omega) (by omega)).2 hp
        obtain ⟨w0, w1⟩ := k2 hp hr
        have v0 : ¬ nI (z (106 + 3 * r + 0)) = -6 := ne_6 (by omega)
        rcases w1 with ⟨w1, w2⟩ | ⟨w1, w2⟩
        · have hb : jbare z (r + 1) = true := by
            rw [jb_s, w1]
            simp
          rw [w1, if_pos non_neg, e0, ob1_ev, if_neg v0, cn_5 hA, ob1_ev, if_pos p1, e2, w2, ob1_ev, if_pos non_neg, ob1_ev, if_pos p1]
          split
          all_goals
            simp only [nm_ev, nI_1, x0]
            exact empty hb
        · have v1 : ¬ nI (z (106 + 3 * r + 1)) < 0 := nI_pos (by omega)
          have v2 : ¬ nI (z (106 + 3 * r + 2)) < 0 := nI_pos (by omega)
          rw [if_neg v1, e0, ob1_ev, if_neg v0, cn_5 hA, ob1_ev, if_pos p1, e2, ob1_ev, if_neg v2]
          have hb : jbare z (r + 1) = jbare z r := by
            rw [jb_s, show decide (z (106 + 3 * r + 1) = NON) = false from decide_eq_false (by unfold NON; omega), Bool.or_false]
          rw [s1, hb] at go
          simp only [nm_ev, nI_1, x0, ob1_ev]
          cases hj : jbare z r with
          | true =>
            rw [hj] at go
            simp only [if_true, if_pos rfl] at go ⊢
            first | exact go | (simp only [if_pos p1]; exact go)
          | false =>
            rw [hj] at go
            simp only [Bool.false_eq_true, if_false, if_neg ne10] at go ⊢
            first | exact go | (simp only [if_pos p1]; exact go)
      · obtain ⟨w0, w1, w2⟩ := k1 (by omega)
        have p1 : ¬ nI r < nI (z 13) := n_lt (by omega) (by omega) (by omega)
        have hb : jbare z (r + 1) = true := by
          rw [jb_s, w1]
          simp
        rw [w1, if_pos non_neg, e0, w0, ob1_ev, if_pos non_6, cn_5 hA, ob1_ev, if_neg p1, e2, w2, ob1_ev, if_pos non_neg, ob1_ev, if_neg p1]
        split
        all_goals
          simp only [nm_ev, nI_1, x0]
          exact empty hb
    · have er : r = 2 * z 4 := by omega
      rw [if_pos ((nI_le31 (by omega) (by omega)).2 (by omega)), er]
      exact rows_279 hA hL hC hI hT h pl hs
theorem rows_28 {a q c l z : Nat → Nat} {T B : Nat} (hA : RA a z) (hL : RM l z) (hC : RC c z) (hI : ZI T B 0 0 0 z) (hT : T ≤ 150000) (h : PI z) (pl hs : Int32) : fL_rows_28 (fI a) (fI q) (fI c) (fI l) pl hs (nI (2 * z 4)) (nI (gone z)) = some 1 := by
  obtain ⟨b10, b24, b16, b15, b3, c3, b4, -, -⟩ := hI.low
  obtain ⟨hz, -, ⟨c1, c2, c3, c4, c5, c6, c7, c8, c9, c10⟩, -, -, ⟨d1, d2, -⟩⟩ := id hI
  obtain ⟨q1, q2, q3⟩ : P4 z := h.2.2.2.1
  obtain ⟨r1, -⟩ : P5 0 z := h.2.2.2.2.1
  unfold fL_rows_28
  rw [cn_12 hA, ob1_ev, cn_13 hA, ob1_ev, cn_14 hA, ob1_ev, nm_ev, cn_5 hA, ob1_ev, cn_3 hA, ob1_ev, cn_6 hA, ob1_ev, nm_ev, nI_add, nI_add, li_2, pk_mul, nI_sub (show 2 * z 11 ≤ z 13 by omega), nI_sub (show gone z ≤ z 13 - 2 * z 11 by omega), nI_sub (show z 14 ≤ z 13 - 2 * z 11 - gone z by omega), if_neg (nI_pos (by omega)), cn_4 hA, ob1_ev, if_neg (n_lt (by omega) (by omega) (by omega)), ob1_ev, cn_7 hA, ob1_ev, pk_mul, nI_add, if_pos (by rw [show z 13 = (z 20 + z 21 + z 22) * (2 * z 4) + z 15 by omega]), ob1_ev, ob1_ev, if_neg (n_lt (by omega) (by omega) c5)]
  unfold fL_rows_127
  exact rows_loop hA hL hC hI hT h pl hs KF 0 (by omega) (by rw [KF_eq]; omega)
theorem rows_ev {a q c l z : Nat → Nat} {T B : Nat} (hA : RA a z) (hQ : RQ q z) (hL : RM l z) (hC : RC c z) (hI : ZI T B 0 0 0 z) (hT : T ≤ 150000) (h : PI z) (pl hs : Int32) : fL_rows (fI a) (fI q) (fI c) (fI l) pl hs = some 1 := by
  obtain ⟨b10, b24, b16, b15, b3, c3, b4, -, -⟩ := hI.low
  have e28 := rows_28 (q := q) hA hL hC hI hT h pl hs
  unfold fL_rows
  rw [cn_19 hA, ob1_ev, nm_ev, show (2 : Int32) * nI (z 4) = nI (2 * z 4) by rw [li_2, pk_mul], cn_2 hA, ob1_ev]
  by_cases g : z 10 = 0
  · have eg : gone z = 0 := by unfold gone; rw [if_pos g]
    rw [eg] at e28
    rw [if_pos (by rw [g]; decide)]
    exact e28
  · have eg : gone z = z 45 := by unfold gone; rw [if_neg g]
    rw [eg] at e28
    have e3 := wt_3 hA hQ b10 0 (by omega)
    rw [if_neg (by rw [li_0]; exact n_le (by omega) (by omega) (by omega)), show (0 : Int32) = nI 0 from rfl, e3, ob1_ev]
    exact e28
