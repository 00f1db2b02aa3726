/-- one setting is another -/
def setIn (z : Nat → Nat) (s v : Nat) : Prop := s < 8 ∧ loS s ≤ v ∧ v ≤ hiS s ∧ (s = 3 → z 15 < 2 * v ∧ z 16 < v) ∧ (s = 2 → z 10 ≤ v)
theorem ZI.set {T B : Nat} {z : Nat → Nat} (h : ZI T B 0 0 0 z) (s v : Nat) (hs : setIn z s v) : ZI T B 0 0 0 (uN z (1 + s) v) := by
  obtain ⟨h1, h2, ⟨c1, c2, c3, c4, c5, c6, c7, c8, c9, c10⟩, h4, h5, ⟨d1, d2, d3, d4, d5, d6⟩⟩ := h
  obtain ⟨s1, s2, s3, s4, s5, s6, s7, s8', s9, s10, s11, s12⟩ := id h2
  obtain ⟨g1, g2, g3, g4, g5⟩ := hs
  have hlh := loS_hiS s
  have hi : ∀ j, 9 ≤ j → uN z (1 + s) v j = z j := fun j hj => uN_n (by omega)
  have h00 : uN z (1 + s) v 0 = z 0 := uN_n (by omega)
  refine ⟨lt_uN h1 _ _ (by omega), ?_, ⟨?_, ?_, ?_, ?_, ?_, ?_, ?_, ?_, ?_, ?_⟩, fun k hk => ?_, fun p hp => ?_, ⟨?_, ?_, ?_, ?_, ?_, ?_⟩⟩
  · unfold ZS
    rcases s8 g1 with rfl | rfl | rfl | rfl | rfl | rfl | rfl | rfl
    · have g2 : 2 ≤ v := g2
      have g3 : v ≤ 99 := g3
      simp (disch := omega) only [Nat.reduceAdd, uN_s, uN_n]
      omega
    · have g2 : 1 ≤ v := g2
      have g3 : v ≤ 99 := g3
      simp (disch := omega) only [Nat.reduceAdd, uN_s, uN_n]
      omega
    · have g2 : 1 ≤ v := g2
      have g3 : v ≤ 16 := g3
      simp (disch := omega) only [Nat.reduceAdd, uN_s, uN_n]
      omega
    · have g2 : 2 ≤ v := g2
      have g3 : v ≤ 16 := g3
      simp (disch := omega) only [Nat.reduceAdd, uN_s, uN_n]
      omega
    · have g2 : 0 ≤ v := g2
      have g3 : v ≤ 1 := g3
      simp (disch := omega) only [Nat.reduceAdd, uN_s, uN_n]
      omega
    · have g2 : 0 ≤ v := g2
      have g3 : v ≤ 1 := g3
      simp (disch := omega) only [Nat.reduceAdd, uN_s, uN_n]
      omega
    · have g2 : 0 ≤ v := g2
      have g3 : v ≤ 255 := g3
      simp (disch := omega) only [Nat.reduceAdd, uN_s, uN_n]
      omega
    · have g2 : 0 ≤ v := g2
      have g3 : v ≤ 255 := g3
      simp (disch := omega) only [Nat.reduceAdd, uN_s, uN_n]
      omega
  all_goals try simp (disch := omega) only [hi, h00]
  all_goals first | omega | exact h4 _ hk | skip
  · by_cases e : s = 2
    · subst e
      rw [uN_s]
      exact g5 rfl
    · rw [uN_n (by omega)]
      exact c3
  · by_cases e : s = 3
    · subst e
      rw [uN_s]
      exact (g4 rfl).1
    · rw [uN_n (by omega)]
      exact c6
  · by_cases e : s = 3
    · subst e
      rw [uN_s]
      exact (g4 rfl).2
    · rw [uN_n (by omega)]
      exact c7
  rw [hi 10 (by omega)] at hp
  exact h5 p hp
