theorem tcopy_ev (n : Nat) (hn : n < 1000) (f g : Nat → Nat) : fX3_copyFrom n (fI g) n (fI f) = some (fI (cut n f g)) := by
  unfold fX3_copyFrom
  have c : (nI n).toNatClampNeg = n := nI_clamp (by omega)
  have c0 : (0 : Int32).toNatClampNeg = 0 := by rw [li_0]; exact nI_clamp (by omega)
  have p0 : ¬ (0 : Int32) < 0 := by decide
  have e : (if nI n < nI n then nI n else nI n) = nI n := by split <;> rfl
  rw [e, nm_ev]
  rw [nd_ev ⟨p0, p0, nI_pos (by omega), by rw [c, c0]; omega, by rw [c, c0]; omega⟩, nm_ev, c, c0, cpy_cut]
