theorem areTicks_ev (x : Int32) : fX5_areTicks x = fX4_isWithin x (nI 1) (nI 999) := by
  unfold fX5_areTicks
  rw [within_nd]
  rfl
theorem more_0 (z y : Nat → Nat) : fX5_more (fI z) (fI y) 0 = some (nI (y 12) - nI (z 12)) := rfl
theorem more_1 (z y : Nat → Nat) : fX5_more (fI z) (fI y) 1 = some (nI (y 14) - nI (z 14)) := rfl
theorem more_2 (z y : Nat → Nat) : fX5_more (fI z) (fI y) 2 = some (nI (y 20) - nI (z 20)) := rfl
def w6 (r : Int32) (Y : T6) : Int32 × (Nat → Int32) × (Nat → Int32) × (Nat → Int32) × (Nat → Int32) × (Nat → Int32) × Int32 := (r, Y)
theorem would_c {B : Nat} (hB : 200000 ≤ B) (hB2 : B < 2000000000) (T : Nat) (hT : T ≤ 100000) (a v q c l : Nat → Nat) (t : Nat) (z : Nat → Nat) (hR : RZ a v q c l t z) (hq : ∀ j, q j < 4294967296) (hI : ZI T B 0 0 0 z) (X : T6) (thn : Nat → Int32) (x1 x2 : Int32) : ∃ r Y thn', fX4_would (fI a) (fI v) (fI q) (fI c) (fI l) (nI t) X.1 X.2.1 X.2.2.1 X.2.2.2.1 X.2.2.2.2.1 X.2.2.2.2.2 x1 x2 = some (w6 r Y) ∧ fX5_would (fI z) thn x1 x2 = some (r, thn') := by
  obtain ⟨th, rfl, hth⟩ := fI_of thn
  unfold fX4_would fX5_would
  rw [areTicks_ev, in_eq, li_1, li_999]
  have s8' := hI.2.1
  have c3 := hI.2.2.1.2.2.1
  rcases in_nI x1 1 999 (by omega) (by omega) with h | ⟨n, rfl, n1, n2, h⟩
  · rw [h]
    exact ⟨-2, X, _, rfl, rfl⟩
  · rw [h]
    simp only [ob1_ev]
    rw [if_neg (by decide), if_neg (by decide), li_0, li_2]
    rcases in_nI x2 0 2 (by omega) (by omega) with h2 | ⟨w, rfl, -, hw, h2⟩
    · rw [h2]
      exact ⟨-2, X, _, rfl, rfl⟩
    · rw [h2]
      simp only [ob1_ev]
      obtain ⟨tnu, tva, tqu, tsc, tlo, twt⟩ := X
      obtain ⟨ta, rfl, ha⟩ := fI_of tnu
      obtain ⟨tv, rfl, hv⟩ := fI_of tva
      obtain ⟨tq, rfl, hq2⟩ := fI_of tqu
      obtain ⟨tc, rfl, hc⟩ := fI_of tsc
      obtain ⟨tl, rfl, hl⟩ := fI_of tlo
      obtain ⟨s1, s2, s3, s4, s5, s6, s7, s8, s9, s10, s11, s12⟩ := s8'
      have hI2 : ZI T B 0 0 0 (cut 234 z th) := hI.cut cut_in (cut_lt hI.1 hth)
      have d := hI2.2.2.2.2.2
      obtain ⟨a', q', c', l', t', e1, e2, e3⟩ := passTicks_ev hB hB2 n 1073741824 T _ _ _ _ _ t _ (hR.cut (by omega) cut_in ta tv tq tc tl) (cut_lt hq hq2) hI2 (by omega) n1 n2 (by omega) (by omega)
      rw [if_neg (by decide), if_neg (by decide), copy_ev, ob6_ev, endless, e1, ob6_ev, tries_z, ob1_ev, passes_z hB n _ hI2 (by omega) (by omega), ob1_ev, li_4, li_6, li_12, gain_c a a' z _ hR.1 e2.1 4 (by omega), gain_c a a' z _ hR.1 e2.1 6 (by omega), gain_c a a' z _ hR.1 e2.1 12 (by omega), ob1_ev, ob1_ev, ob1_ev]
      rcases (show w = 0 ∨ w = 1 ∨ w = 2 by omega) with rfl | rfl | rfl
      · rw [if_pos (by decide), show nI 0 = 0 from rfl, more_0, ob1_ev]
        exact ⟨_, ⟨_, _, _, _, _, _⟩, _, rfl, rfl⟩
      · rw [if_neg (by decide), if_pos (by decide), show nI 1 = 1 from rfl, more_1, ob1_ev]
        exact ⟨_, ⟨_, _, _, _, _, _⟩, _, rfl, rfl⟩
      · rw [if_neg (by decide), if_neg (by decide), show nI 2 = 2 from rfl, more_2, ob1_ev]
        exact ⟨_, ⟨_, _, _, _, _, _⟩, _, rfl, rfl⟩
