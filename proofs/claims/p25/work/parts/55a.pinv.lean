/-! ===== what holds of a state: the lines that wait, the missing ones, rows, screens ===== -/
def nbw (z : Nat → Nat) (p : Nat) : Nat := z (42 + 4 * p + 0) * z 4 + z (42 + 4 * p + 1)
def nbm (z : Nat → Nat) (j : Nat) : Nat := z (202 + 4 * j + 0) * z 4 + z (202 + 4 * j + 1)
def P1 (d : Nat) (z : Nat → Nat) : Prop := z 17 * z 4 + z 16 + d = z 9
def P2 (M : Nat) (z : Nat → Nat) : Prop := (∀ p, p < z 10 → z (42 + 4 * p + 1) < z 4 ∧ z (42 + 4 * p + 2) < 256 ∧ nbw z p < M ∧ (0 < p → z (42 + 4 * p + 3) = 0)) ∧ ∀ p q, p < q → q < z 10 → nbw z p < nbw z q
def P3 (M : Nat) (z : Nat → Nat) : Prop := ∀ j, j < z 24 → nbm z j < M ∧ z (202 + 4 * j + 2) ≤ 2 ∧ z (202 + 4 * j + 3) ≤ z 0 ∧ (0 < j → z (202 + 4 * j + 3) ≤ z (202 + 4 * (j - 1) + 3))
def gone (z : Nat → Nat) : Nat := if z 10 = 0 then 0 else z 45
def P4 (z : Nat → Nat) : Prop := 2 * z 11 + gone z + z 14 ≤ z 13 ∧ z 13 ≤ 2 * z 11 + gone z + z 14 + z 12 ∧ gone z ≤ 1
def P5 (e : Nat) (z : Nat → Nat) : Prop := z 13 = (z 20 + z 21 + z 22) * (2 * z 4) + z 15 + e ∧ (z 20 + z 21 + z 22 = 0 ∧ z 23 = NON ∨ 0 < z 20 + z 21 + z 22 ∧ z 23 ≤ 2)
def rowOK (x y w : Nat) : Prop := x ≤ 255 ∧ (y = NON ∧ w = NON ∨ y ≤ 200000 ∧ w < 16)
def P6 (z : Nat → Nat) : Prop := ∀ r, r < 32 → (z 13 ≤ r → z (106 + 3 * r + 0) = NON ∧ z (106 + 3 * r + 1) = NON ∧ z (106 + 3 * r + 2) = NON) ∧ (r < z 13 → r < 2 * z 4 → rowOK (z (106 + 3 * r + 0)) (z (106 + 3 * r + 1)) (z (106 + 3 * r + 2)))
def PJ (d e M : Nat) (z : Nat → Nat) : Prop := P1 d z ∧ P2 M z ∧ P3 M z ∧ P4 z ∧ P5 e z ∧ P6 z
theorem P1.ext {d : Nat} {z y : Nat → Nat} (h : P1 d z) (h4 : y 4 = z 4) (h9 : y 9 = z 9) (h16 : y 16 = z 16) (h17 : y 17 = z 17) : P1 d y := by
  unfold P1 at h ⊢
  rw [h4, h9, h16, h17]
  exact h
theorem P2.ext {M : Nat} {z y : Nat → Nat} (h : P2 M z) (h10 : z 10 ≤ 16) (e10 : y 10 = z 10) (e4 : y 4 = z 4) (e : ∀ j, 42 ≤ j → j < 106 → y j = z j) : P2 M y := by
  have en : ∀ p, p < z 10 → nbw y p = nbw z p := fun p hp => by
    unfold nbw
    rw [e4, e _ (by omega) (by omega), e _ (by omega) (by omega)]
  refine ⟨fun p hp => ?_, fun p q hpq hq => ?_⟩
  · rw [e10] at hp
    rw [en p hp, e4, e _ (by omega) (by omega), e _ (by omega) (by omega), e _ (by omega) (by omega)]
    exact h.1 p hp
  · rw [e10] at hq
    rw [en p (by omega), en q hq]
    exact h.2 p q hpq hq
theorem P2.mono {M M' : Nat} {z : Nat → Nat} (h : P2 M z) (hM : M ≤ M') : P2 M' z := ⟨fun p hp => by
  obtain ⟨a, b, c, d⟩ := h.1 p hp
  exact ⟨a, b, by omega, d⟩, h.2⟩
theorem P3.ext {M : Nat} {z y : Nat → Nat} (h : P3 M z) (h24 : z 24 ≤ 8) (e24 : y 24 = z 24) (e4 : y 4 = z 4) (e0 : z 0 ≤ y 0) (e : ∀ j, 202 ≤ j → y j = z j) : P3 M y := by
  intro j hj
  rw [e24] at hj
  obtain ⟨a, b, c, d⟩ := h j hj
  unfold nbm at a ⊢
  rw [e4, e _ (by omega), e _ (by omega), e _ (by omega), e _ (by omega), e (202 + 4 * (j - 1) + 3) (by omega)]
  exact ⟨a, b, by omega, d⟩
theorem P3.mono {M M' : Nat} {z : Nat → Nat} (h : P3 M z) (hM : M ≤ M') : P3 M' z := fun j hj => by
  obtain ⟨a, b, c, d⟩ := h j hj
  exact ⟨by omega, b, c, d⟩
theorem gone_ext {z y : Nat → Nat} (h10 : y 10 = z 10) (h45 : y 45 = z 45) : gone y = gone z := by
  unfold gone
  rw [h10, h45]
theorem P4.ext {z y : Nat → Nat} (h : P4 z) (h10 : y 10 = z 10) (h45 : y 45 = z 45) (h11 : y 11 = z 11) (h12 : y 12 = z 12) (h13 : y 13 = z 13) (h14 : y 14 = z 14) : P4 y := by
  unfold P4 at h ⊢
  rw [gone_ext h10 h45, h11, h12, h13, h14]
  exact h
theorem P5.ext {e : Nat} {z y : Nat → Nat} (h : P5 e z) (h4 : y 4 = z 4) (h13 : y 13 = z 13) (h15 : y 15 = z 15) (h20 : y 20 = z 20) (h21 : y 21 = z 21) (h22 : y 22 = z 22) (h23 : y 23 = z 23) : P5 e y := by
  unfold P5 at h ⊢
  rw [h4, h13, h15, h20, h21, h22, h23]
  exact h
theorem P6.ext {z y : Nat → Nat} (h : P6 z) (h4 : y 4 = z 4) (h13 : y 13 = z 13) (e : ∀ j, 106 ≤ j → j < 202 → y j = z j) : P6 y := by
  intro r hr
  rw [h4, h13, e _ (by omega) (by omega), e _ (by omega) (by omega), e _ (by omega) (by omega)]
  exact h r hr
theorem PJ.mono {d e M M' : Nat} {z : Nat → Nat} (h : PJ d e M z) (hM : M ≤ M') : PJ d e M' z := ⟨h.1, h.2.1.mono hM, h.2.2.1.mono hM, h.2.2.2⟩
/-- nothing of it changed but the tick -/
theorem PJ.ext {d e M : Nat} {z y : Nat → Nat} (h : PJ d e M z) (h10 : z 10 ≤ 16) (h24 : z 24 ≤ 8) (e0 : z 0 ≤ y 0) (lo : ∀ j, 9 ≤ j → j < 18 → y j = z j) (lo2 : ∀ j, 20 ≤ j → j < 25 → y j = z j) (e4 : y 4 = z 4) (hi : ∀ j, 42 ≤ j → y j = z j) : PJ d e M y := by
  obtain ⟨a1, a2, a3, a4, a5, a6⟩ := h
  refine ⟨a1.ext e4 (lo _ (by omega) (by omega)) (lo _ (by omega) (by omega)) (lo _ (by omega) (by omega)), a2.ext h10 (lo _ (by omega) (by omega)) e4 (fun j g _ => hi j g), a3.ext h24 (lo2 _ (by omega) (by omega)) e4 e0 (fun j g => hi j (by omega)), a4.ext (lo _ (by omega) (by omega)) (hi _ (by omega)) (lo _ (by omega) (by omega)) (lo _ (by omega) (by omega)) (lo _ (by omega) (by omega)) (lo _ (by omega) (by omega)), a5.ext e4 (lo _ (by omega) (by omega)) (lo _ (by omega) (by omega)) (lo2 _ (by omega) (by omega)) (lo2 _ (by omega) (by omega)) (lo2 _ (by omega) (by omega)) (lo2 _ (by omega) (by omega)), a6.ext e4 (lo _ (by omega) (by omega)) (fun j g _ => hi j (by omega))⟩
theorem PJ.came {e M : Nat} {z : Nat → Nat} (h : PJ 0 e M z) (h10 : z 10 ≤ 16) (h24 : z 24 ≤ 8) : PJ 1 e M (uN z 9 (z 9 + 1)) := by
  have u : ∀ j, j ≠ 9 → uN z 9 (z 9 + 1) j = z j := fun j hj => uN_n hj
  have u9 : uN z 9 (z 9 + 1) 9 = z 9 + 1 := uN_s
  obtain ⟨a1, a2, a3, a4, a5, a6⟩ := h
  refine ⟨?_, a2.ext h10 (u _ (by omega)) (u _ (by omega)) (fun j g _ => u j (by omega)), a3.ext h24 (u _ (by omega)) (u _ (by omega)) (by rw [u _ (by omega)]; exact Nat.le_refl _) (fun j g => u j (by omega)), a4.ext (u _ (by omega)) (u _ (by omega)) (u _ (by omega)) (u _ (by omega)) (u _ (by omega)) (u _ (by omega)), a5.ext (u _ (by omega)) (u _ (by omega)) (u _ (by omega)) (u _ (by omega)) (u _ (by omega)) (u _ (by omega)) (u _ (by omega)), a6.ext (u _ (by omega)) (u _ (by omega)) (fun j g _ => u j (by omega))⟩
  unfold P1 at a1 ⊢
  rw [u9, u 17 (by omega), u 16 (by omega), u 4 (by omega)]
  omega
theorem zqueue_ap (z : Nat → Nat) (j : Nat) : zqueue z j = if j = 10 then z 10 + 1 else if j = 42 + 4 * z 10 then z 17 else if j = 42 + 4 * z 10 + 1 then z 16 else if j = 42 + 4 * z 10 + 2 then (z (26 + z 16) + z 8 * z 17) % 256 else if j = 42 + 4 * z 10 + 3 then 0 else z j := rfl
theorem zmiss_ap (z : Nat → Nat) (p l w j : Nat) : zmiss z p l w j = if j = 202 then p else if j = 203 then l else if j = 204 then w else if j = 205 then z 0 else if 206 ≤ j ∧ j ≤ 233 then z (j - 4) else if j = 24 then (if z 24 < 8 then z 24 + 1 else z 24) else if j = 12 then z 12 + 1 else z j := rfl
theorem PJ.queue {e M : Nat} {z : Nat → Nat} (h : PJ 1 e M z) (hM : z 17 * z 4 + z 16 = M) (h10 : z 10 ≤ 15) (h24 : z 24 ≤ 8) (h16 : z 16 < z 4) : PJ 1 e (M + 1) (zqueue z) := by
  have lo : ∀ j, j < 42 → j ≠ 10 → zqueue z j = z j := fun j g1 g2 => zqueue_lo z j g1 g2
  have a10 : zqueue z 10 = z 10 + 1 := by simp [zqueue]
  have n0 : zqueue z (42 + 4 * z 10 + 0) = z 17 := by
    rw [zqueue_ap, if_neg (by omega), if_pos (by omega)]
  have n1 : zqueue z (42 + 4 * z 10 + 1) = z 16 := by
    rw [zqueue_ap, if_neg (by omega), if_neg (by omega), if_pos (by omega)]
  have n2 : zqueue z (42 + 4 * z 10 + 2) = (z (26 + z 16) + z 8 * z 17) % 256 := by
    rw [zqueue_ap, if_neg (by omega), if_neg (by omega), if_neg (by omega), if_pos (by omega)]
  have n3 : zqueue z (42 + 4 * z 10 + 3) = 0 := by
    rw [zqueue_ap, if_neg (by omega), if_neg (by omega), if_neg (by omega), if_neg (by omega), if_pos (by omega)]
  have old : ∀ j, 42 ≤ j → (j < 42 + 4 * z 10 ∨ 42 + 4 * z 10 + 4 ≤ j) → zqueue z j = z j := fun j g1 g2 => by
    rw [zqueue_ap, if_neg (by omega), if_neg (by omega), if_neg (by omega), if_neg (by omega), if_neg (by omega)]
  have en : ∀ p, p < z 10 → nbw (zqueue z) p = nbw z p := fun p hp => by
    unfold nbw
    rw [lo 4 (by omega) (by omega), old _ (by omega) (by omega), old _ (by omega) (by omega)]
  have enw : nbw (zqueue z) (z 10) = M := by
    unfold nbw
    rw [n0, n1, lo 4 (by omega) (by omega)]
    exact hM
  obtain ⟨a1, a2, a3, a4, a5, a6⟩ := h
  refine ⟨a1.ext (lo _ (by omega) (by omega)) (lo _ (by omega) (by omega)) (lo _ (by omega) (by omega)) (lo _ (by omega) (by omega)), ⟨fun p hp => ?_, fun p q hpq hq => ?_⟩, (a3.mono (Nat.le_succ M)).ext h24 (lo _ (by omega) (by omega)) (lo _ (by omega) (by omega)) (by rw [lo _ (by omega) (by omega)]; exact Nat.le_refl _) (fun j g => old j (by omega) (by omega)), ?_, a5.ext (lo _ (by omega) (by omega)) (lo _ (by omega) (by omega)) (lo _ (by omega) (by omega)) (lo _ (by omega) (by omega)) (lo _ (by omega) (by omega)) (lo _ (by omega) (by omega)) (lo _ (by omega) (by omega)), a6.ext (lo _ (by omega) (by omega)) (lo _ (by omega) (by omega)) (fun j g _ => old j (by omega) (by omega))⟩
  · rw [a10] at hp
    rw [lo 4 (by omega) (by omega)]
    by_cases g : p = z 10
    · rw [g, n1, n2, n3, enw]
      exact ⟨h16, Nat.mod_lt _ (by omega), by omega, fun _ => rfl⟩
    · obtain ⟨b1, b2, b3, b4⟩ := a2.1 p (by omega)
      rw [en p (by omega), old _ (by omega) (by omega), old _ (by omega) (by omega), old _ (by omega) (by omega)]
      exact ⟨b1, b2, by omega, b4⟩
  · rw [a10] at hq
    by_cases g : q = z 10
    · rw [g, enw, en p (by omega)]
      exact (a2.1 p (by omega)).2.2.1
    · rw [en p (by omega), en q (by omega)]
      exact a2.2 p q hpq (by omega)
  · have eg : gone (zqueue z) = gone z := by
      unfold gone
      rw [a10, if_neg (by omega)]
      by_cases g : z 10 = 0
      · rw [if_pos g]
        rw [g] at n3
        exact n3
      · rw [if_neg g]
        exact old 45 (by omega) (by omega)
    unfold P4 at a4 ⊢
    rw [eg, lo 11 (by omega) (by omega), lo 12 (by omega) (by omega), lo 13 (by omega) (by omega), lo 14 (by omega) (by omega)]
    exact a4
theorem zmiss_m (z : Nat → Nat) (p l w j : Nat) (hj : j < 8) : zmiss z p l w (202 + 4 * j + 0) = (if j = 0 then p else z (202 + 4 * (j - 1) + 0)) ∧ zmiss z p l w (202 + 4 * j + 1) = (if j = 0 then l else z (202 + 4 * (j - 1) + 1)) ∧ zmiss z p l w (202 + 4 * j + 2) = (if j = 0 then w else z (202 + 4 * (j - 1) + 2)) ∧ zmiss z p l w (202 + 4 * j + 3) = (if j = 0 then z 0 else z (202 + 4 * (j - 1) + 3)) := by
  by_cases g : j = 0
  · subst g
    refine ⟨rfl, rfl, rfl, rfl⟩
  · rw [if_neg g, if_neg g, if_neg g, if_neg g]
    refine ⟨?_, ?_, ?_, ?_⟩
    all_goals
      rw [zmiss_ap, if_neg (by omega), if_neg (by omega), if_neg (by omega), if_neg (by omega), if_pos (by omega)]
      congr 1
      omega
theorem P3.miss {M M' : Nat} {z : Nat → Nat} (h : P3 M z) (h24 : z 24 ≤ 8) (p l w : Nat) (hn : p * z 4 + l < M') (hM : M ≤ M') (hw : w ≤ 2) : P3 M' (zmiss z p l w) := by
  have a24 := zmiss_24 z p l w
  have e4 : zmiss z p l w 4 = z 4 := zmiss_mid _ _ _ _ _ (by omega) (by omega) (by omega)
  have e0 : zmiss z p l w 0 = z 0 := zmiss_mid _ _ _ _ _ (by omega) (by omega) (by omega)
  intro j hj
  have hj8 : j < 8 ∧ j ≤ z 24 := by
    rw [a24] at hj
    split at hj <;> omega
  obtain ⟨m0, m1, m2, m3⟩ := zmiss_m z p l w j hj8.1
  unfold nbm
  by_cases g : j = 0
  · rw [if_pos g] at m0 m1 m2 m3
    rw [m0, m1, m2, m3, e4, e0]
    exact ⟨hn, hw, Nat.le_refl _, fun q => by omega⟩
  · rw [if_neg g] at m0 m1 m2 m3
    obtain ⟨b0, b1, b2, b3⟩ := h (j - 1) (by omega)
    unfold nbm at b0
    rw [m0, m1, m2, m3, e4, e0]
    refine ⟨by omega, b1, b2, fun _ => ?_⟩
    obtain ⟨-, -, -, k3⟩ := zmiss_m z p l w (j - 1) (by omega)
    rw [k3]
    by_cases g1 : j - 1 = 0
    · rw [if_pos g1]
      exact b2
    · rw [if_neg g1]
      exact b3 (by omega)
theorem PJ.miss {e M : Nat} {z : Nat → Nat} (h : PJ 1 e M z) (hM : z 17 * z 4 + z 16 = M) (h10 : z 10 ≤ 16) (h24 : z 24 ≤ 8) : PJ 1 e (M + 1) (zmiss z (z 17) (z 16) 0) := by
  have lo : ∀ j, j < 202 → j ≠ 12 → j ≠ 24 → zmiss z (z 17) (z 16) 0 j = z j := fun j g1 g2 g3 => zmiss_mid z _ _ _ j g1 g2 g3
  have a12 := zmiss_12 z (z 17) (z 16) 0
  obtain ⟨a1, a2, a3, a4, a5, a6⟩ := h
  refine ⟨a1.ext (lo _ (by omega) (by omega) (by omega)) (lo _ (by omega) (by omega) (by omega)) (lo _ (by omega) (by omega) (by omega)) (lo _ (by omega) (by omega) (by omega)), (a2.mono (Nat.le_succ M)).ext h10 (lo _ (by omega) (by omega) (by omega)) (lo _ (by omega) (by omega) (by omega)) (fun j g1 g2 => lo j (by omega) (by omega) (by omega)), a3.miss h24 _ _ _ (by omega) (Nat.le_succ M) (by omega), ?_, a5.ext (lo _ (by omega) (by omega) (by omega)) (lo _ (by omega) (by omega) (by omega)) (lo _ (by omega) (by omega) (by omega)) (lo _ (by omega) (by omega) (by omega)) (lo _ (by omega) (by omega) (by omega)) (lo _ (by omega) (by omega) (by omega)) (lo _ (by omega) (by omega) (by omega)), a6.ext (lo _ (by omega) (by omega) (by omega)) (lo _ (by omega) (by omega) (by omega)) (fun j g1 g2 => lo j (by omega) (by omega) (by omega))⟩
  unfold P4 at a4 ⊢
  rw [gone_ext (lo 10 (by omega) (by omega) (by omega)) (lo 45 (by omega) (by omega) (by omega)), a12, lo 11 (by omega) (by omega) (by omega), lo 13 (by omega) (by omega) (by omega), lo 14 (by omega) (by omega) (by omega)]
  omega
theorem PJ.lose {d e M : Nat} {z : Nat → Nat} (h : PJ d e M z) (h10 : z 10 ≤ 16) (h24 : z 24 ≤ 8) (k w : Nat) (hk : k < z 10) (hw : w ≤ 2) : PJ d e M (zlose z k w) := by
  have lo : ∀ j, j < 42 → j ≠ 10 → j ≠ 12 → j ≠ 24 → zlose z k w j = z j := fun j g1 g2 g3 g4 => zlose_lo z k w j g1 g2 g3 g4
  have a10 := zlose_10 z k w
  have a12 := zlose_12 z k w
  have a24 := zlose_24 z k w
  obtain ⟨f, hf⟩ : ∃ f : Nat → Nat, ∀ i, f i = if k ≤ i ∧ i < z 10 - 1 then i + 1 else i := ⟨_, fun _ => rfl⟩
  have fb : ∀ i, i < z 10 - 1 → f i < z 10 ∧ i ≤ f i := fun i hi => by
    rw [hf i]
    split <;> omega
  have fm : ∀ i j, i < j → j < z 10 - 1 → f i < f j := fun i j h1 h2 => by
    rw [hf i, hf j]
    split <;> split <;> omega
  have q : ∀ i c, c < 4 → i < z 10 - 1 → zlose z k w (42 + 4 * i + c) = z (42 + 4 * f i + c) := fun i c hc hi => by
    rw [zlose_q z k w i c hc (by omega) (by omega), hf i]
    split <;> rfl
  have en : ∀ i, i < z 10 - 1 → nbw (zlose z k w) i = nbw z (f i) := fun i hi => by
    unfold nbw
    rw [q i 0 (by omega) hi, q i 1 (by omega) hi, lo 4 (by omega) (by omega) (by omega) (by omega)]
  obtain ⟨a1, a2, a3, a4, a5, a6⟩ := h
  refine ⟨a1.ext (lo _ (by omega) (by omega) (by omega) (by omega)) (lo _ (by omega) (by omega) (by omega) (by omega)) (lo _ (by omega) (by omega) (by omega) (by omega)) (lo _ (by omega) (by omega) (by omega) (by omega)), ⟨fun p hp => ?_, fun p r hpr hr => ?_⟩, ?_, ?_, a5.ext (lo _ (by omega) (by omega) (by omega) (by omega)) (lo _ (by omega) (by omega) (by omega) (by omega)) (lo _ (by omega) (by omega) (by omega) (by omega)) (lo _ (by omega) (by omega) (by omega) (by omega)) (lo _ (by omega) (by omega) (by omega) (by omega)) (lo _ (by omega) (by omega) (by omega) (by omega)) (lo _ (by omega) (by omega) (by omega) (by omega)), a6.ext (lo _ (by omega) (by omega) (by omega) (by omega)) (lo _ (by omega) (by omega) (by omega) (by omega)) (fun j g1 g2 => zlose_sh z k w j g1 g2 (by omega))⟩
  · rw [a10] at hp
    obtain ⟨f1, f2⟩ := fb p hp
    obtain ⟨b1, b2, b3, b4⟩ := a2.1 (f p) f1
    rw [en p hp, lo 4 (by omega) (by omega) (by omega) (by omega), q p 1 (by omega) hp, q p 2 (by omega) hp, q p 3 (by omega) hp]
    exact ⟨b1, b2, b3, fun g => b4 (by omega)⟩
  · rw [a10] at hr
    rw [en p (by omega), en r hr]
    exact a2.2 _ _ (fm p r hpr hr) (fb r hr).1
  · have b3 : nbw z k < M := (a2.1 k hk).2.2.1
    have hmis := a3.miss h24 (z (42 + 4 * k + 0)) (z (42 + 4 * k + 1)) w b3 (Nat.le_refl M) hw
    refine hmis.ext ?_ ?_ ?_ ?_ (fun j hj => zlose_go z k w j hj (by omega))
    · rw [zmiss_24]
      split <;> omega
    · rw [a24, zmiss_24]
    · rw [lo 4 (by omega) (by omega) (by omega) (by omega), zmiss_mid _ _ _ _ _ (by omega) (by omega) (by omega)]
    · rw [lo 0 (by omega) (by omega) (by omega) (by omega), zmiss_mid _ _ _ _ _ (by omega) (by omega) (by omega)]
      exact Nat.le_refl _
  · unfold P4 at a4 ⊢
    have eg : gone (zlose z k w) ≤ gone z ∧ gone z ≤ gone (zlose z k w) + 1 := by
      have g0 : gone z = z 45 := by
        unfold gone
        rw [if_neg (by omega)]
      by_cases g1 : z 10 = 1
      · have : gone (zlose z k w) = 0 := by
          unfold gone
          rw [a10, g1]
          rfl
        omega
      · have g2 : gone (zlose z k w) = z (42 + 4 * f 0 + 3) := by
          unfold gone
          rw [a10, if_neg (by omega)]
          exact q 0 3 (by omega) (by omega)
        by_cases g3 : f 0 = 0
        · rw [g3] at g2
          have g2 : gone (zlose z k w) = z 45 := g2
          omega
        · have := (a2.1 (f 0) (fb 0 (by omega)).1).2.2.2 (by omega)
          omega
    rw [a12, lo 11 (by omega) (by omega) (by omega) (by omega), lo 13 (by omega) (by omega) (by omega) (by omega), lo 14 (by omega) (by omega) (by omega) (by omega)]
    omega
theorem PJ.adv {e M : Nat} {z : Nat → Nat} (h : PJ 1 e M z) (h10 : z 10 ≤ 16) (h24 : z 24 ≤ 8) (h16 : z 16 < z 4) : PJ 0 e M (zadv z) := by
  have lo : ∀ j, j ≠ 16 → j ≠ 17 → j ≠ 18 → zadv z j = z j := fun j g1 g2 g3 => zadv_hi z j g1 g2 g3
  obtain ⟨a1, a2, a3, a4, a5, a6⟩ := h
  refine ⟨?_, a2.ext h10 (lo _ (by omega) (by omega) (by omega)) (lo _ (by omega) (by omega) (by omega)) (fun j g1 g2 => lo j (by omega) (by omega) (by omega)), a3.ext h24 (lo _ (by omega) (by omega) (by omega)) (lo _ (by omega) (by omega) (by omega)) (by rw [lo _ (by omega) (by omega) (by omega)]; exact Nat.le_refl _) (fun j g1 => lo j (by omega) (by omega) (by omega)), a4.ext (lo _ (by omega) (by omega) (by omega)) (lo _ (by omega) (by omega) (by omega)) (lo _ (by omega) (by omega) (by omega)) (lo _ (by omega) (by omega) (by omega)) (lo _ (by omega) (by omega) (by omega)) (lo _ (by omega) (by omega) (by omega)), a5.ext (lo _ (by omega) (by omega) (by omega)) (lo _ (by omega) (by omega) (by omega)) (lo _ (by omega) (by omega) (by omega)) (lo _ (by omega) (by omega) (by omega)) (lo _ (by omega) (by omega) (by omega)) (lo _ (by omega) (by omega) (by omega)) (lo _ (by omega) (by omega) (by omega)), a6.ext (lo _ (by omega) (by omega) (by omega)) (lo _ (by omega) (by omega) (by omega)) (fun j g1 g2 => lo j (by omega) (by omega) (by omega))⟩
  unfold P1 at a1 ⊢
  rw [lo 9 (by omega) (by omega) (by omega), lo 4 (by omega) (by omega) (by omega)]
  by_cases g : z 16 + 1 < z 4
  · have e16 : zadv z 16 = z 16 + 1 := by unfold zadv; rw [if_pos g, uN_n (by omega), uN_s]
    have e17 : zadv z 17 = z 17 := by unfold zadv; rw [if_pos g, uN_n (by omega), uN_n (by omega)]
    rw [e16, e17]
    omega
  · have e16 : zadv z 16 = 0 := by unfold zadv; rw [if_neg g, uN_n (by omega), uN_n (by omega), uN_s]
    have e17 : zadv z 17 = z 17 + 1 := by unfold zadv; rw [if_neg g, uN_n (by omega), uN_s]
    rw [e16, e17, Nat.succ_mul]
    omega
