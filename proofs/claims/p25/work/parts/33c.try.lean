/-! the trial of the class -/
theorem gain_c (a ta z y : Nat → Nat) (hA : RA a z) (hT : RA ta y) (k : Nat) (hk : k < 24) : fX4_gainOf (fI a) (fI ta) (nI k) = some (nI (y (mu k)) - nI (z (mu k))) := by
  unfold fX4_gainOf
  rw [li_0, li_23, within_n k 0 23 (by omega) (by omega) (by omega), ob1_ev, if_neg (by decide), chk_nI (by omega) (by omega), chk_nI (by omega) (by omega), fI_ap, fI_ap, hA k hk, hT k hk]
theorem endless : (1073741824 : Int32) = nI 1073741824 := by decide
abbrev T6 := (Nat → Int32) × (Nat → Int32) × (Nat → Int32) × (Nat → Int32) × (Nat → Int32) × Int32
