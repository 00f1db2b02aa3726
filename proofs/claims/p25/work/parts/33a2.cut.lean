theorem ZI.cut {T B : Nat} {z z' : Nat → Nat} (h : ZI T B 0 0 0 z) (hz : ∀ j, j < 234 → z' j = z j) (hb : ∀ k, z' k < 4294967296) : ZI T B 0 0 0 z' := by
  obtain ⟨h1, h2, ⟨c1, c2, c3, c4, c5, c6, c7, c8, c9, c10⟩, h4, h5, ⟨d1, d2, d3, d4, d5, d6⟩⟩ := h
  obtain ⟨s1, s2, s3, s4, s5, s6, s7, s8, s9, s10, s11, s12⟩ := id h2
  refine ⟨hb, ?_, ⟨?_, ?_, ?_, ?_, ?_, ?_, ?_, ?_, ?_, ?_⟩, fun k hk => ?_, fun p hp => ?_, ⟨?_, ?_, ?_, ?_, ?_, ?_⟩⟩
  · unfold ZS at h2 ⊢
    simp (disch := omega) only [hz]
    exact h2
  all_goals try simp (disch := omega) only [hz]
  all_goals first | omega | exact h4 _ hk | skip
  rw [hz 10 (by omega)] at hp
  rw [hz _ (by omega)]
  exact h5 p hp
