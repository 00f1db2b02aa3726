def cut (n : Nat) (f g : Nat → Nat) : Nat → Nat := fun j => if j < n then f j else g j
theorem cut_lt {n : Nat} {f g : Nat → Nat} (hf : ∀ j, f j < 4294967296) (hg : ∀ j, g j < 4294967296) : ∀ j, cut n f g j < 4294967296 := by
  intro j
  unfold cut
  split
  · exact hf j
  · exact hg j
theorem cut_in {n : Nat} {f g : Nat → Nat} : ∀ j, j < n → cut n f g j = f j := fun j hj => by unfold cut; rw [if_pos hj]
theorem cut_at {n j : Nat} {f g : Nat → Nat} (hj : j < n) : cut n f g j = f j := cut_in j hj
