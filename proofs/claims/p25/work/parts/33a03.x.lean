theorem cpy_cut (f g : Nat → Nat) (n : Nat) : va_cpy (fI f) (fI g) 0 0 n = fI (cut n f g) := by
  funext j
  unfold cut
  by_cases h : j < n
  · rw [pk_cpy_in (by omega) (by omega), fI_ap, fI_ap, if_pos h]
    congr 2
    omega
  · rw [pk_cpy_out (by omega), fI_ap, fI_ap, if_neg h]
