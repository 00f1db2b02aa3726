theorem RZ.set {a v q c l : Nat → Nat} {t : Nat} {z : Nat → Nat} (h : RZ a v q c l t z) (s w : Nat) (hs : s < 8) : RZ (uN a (16 + s) w) v q c l t (uN z (1 + s) w) := by
  obtain ⟨hA, hV, hQ, hC, hL, hT⟩ := h
  have hi : ∀ j, 9 ≤ j → uN z (1 + s) w j = z j := fun j hj => uN_n (by omega)
  refine ⟨hA.up (16 + s) w (by omega) (by unfold mu; rw [if_neg (by omega), if_neg (by omega)]; omega), hV.ext fun j g1 g2 => hi j (by omega), fun p x hp hx => ?_, hC.ext fun j g1 g2 => hi j (by omega), hL.ext (hi 12 (by omega)) fun j g => hi j (by omega), hT.trans (hi 25 (by omega)).symm⟩
  rw [hi 10 (by omega)] at hp
  rw [hi _ (by omega)]
  exact hQ p x hp hx
