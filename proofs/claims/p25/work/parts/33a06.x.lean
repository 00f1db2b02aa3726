/-- the relation looks at so many places only -/
theorem RZ.cut {a v q c l : Nat → Nat} {t : Nat} {z z' : Nat → Nat} (h : RZ a v q c l t z) (h10 : z 10 ≤ 16) (hz : ∀ j, j < 234 → z' j = z j) (ta tv tq tc tl : Nat → Nat) : RZ (cut 24 a ta) (cut 16 v tv) (cut 68 q tq) (cut 96 c tc) (cut 32 l tl) t z' := by
  obtain ⟨hA, hV, hQ, hC, hL, hT⟩ := h
  refine ⟨fun j hj => ?_, fun j hj => ?_, fun p x hp hx => ?_, fun j hj => ?_, fun j x h1 h2 h3 => ?_, by rw [hz 25 (by omega)]; exact hT⟩
  · have := mu_lt hj
    rw [hz _ (by omega)]
    rw [cut_at hj]
    exact hA j hj
  · rw [hz _ (by omega)]
    rw [cut_at hj]
    exact hV j hj
  · rw [hz 10 (by omega)] at hp
    rw [hz _ (by omega)]
    rw [cut_at (by omega)]
    exact hQ p x hp hx
  · rw [hz _ (by omega)]
    rw [cut_at hj]
    exact hC j hj
  · rw [hz 12 (by omega)] at h2 ⊢
    rw [hz _ (by omega)]
    have := Nat.mod_lt (z 12 - 1 - j) (show 0 < 8 by omega)
    rw [cut_at (by omega)]
    exact hL j x h1 h2 h3
