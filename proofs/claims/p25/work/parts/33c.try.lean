/-! the trial of the class -/
theorem gain_c (a ta z y : Nat → Nat) (hA : RA a z) (hT : RA ta y) (k : Nat) (hk : k < 24) : fX4_gainOf (fI a) (fI ta) (nI k) = some (nI (y (mu k)) - nI (z (mu k))) := by
  unfold fX4_gainOf
  rw [li_0, li_23, within_n k 0 23 (by omega) (by omega) (by omega), ob1_ev, if_neg (by decide), chk_nI (by omega) (by omega), chk_nI (by omega) (by omega), fI_ap, fI_ap, hA k hk, hT k hk]
theorem endless : (1073741824 : Int32) = nI 1073741824 := by decide
abbrev T6 := (Nat → Int32) × (Nat → Int32) × (Nat → Int32) × (Nat → Int32) × (Nat → Int32) × Int32
theorem try_c {B : Nat} (hB : 200000 ≤ B) (hB2 : B < 2000000000) (T n s w : Nat) (a v q c l : Nat → Nat) (t : Nat) (z z' : Nat → Nat) (hR : RZ a v q c l t z) (hq : ∀ j, q j < 4294967296) (h10 : z 10 ≤ 16) (hz : ∀ j, j < 234 → z' j = z j) (hs : s < 8) (hI : ZI T B 0 0 0 (uN z' (1 + s) w)) (hT : T + n ≤ 150001) (h1 : 1 ≤ n) (h2 : n ≤ 999) (X : T6) : ∃ ta tv tq tc tl tt, fX4_tryWith (fI a) (fI v) (fI q) (fI c) (fI l) (nI t) X.1 X.2.1 X.2.2.1 X.2.2.2.1 X.2.2.2.2.1 X.2.2.2.2.2 (nI s) (nI w) (nI n) = some (fI ta, fI tv, fI tq, fI tc, fI tl, nI tt) ∧ RZ ta tv tq tc tl tt (zpass (uN z' (1 + s) w) n) := by
  obtain ⟨tnu, tva, tqu, tsc, tlo, twt⟩ := X
  obtain ⟨ta, rfl, ha⟩ := fI_of tnu
  obtain ⟨tv, rfl, hv⟩ := fI_of tva
  obtain ⟨tq, rfl, hq2⟩ := fI_of tqu
  obtain ⟨tc, rfl, hc⟩ := fI_of tsc
  obtain ⟨tl, rfl, hl⟩ := fI_of tlo
  dsimp only
  unfold fX4_tryWith fX4_tryWith_34
  rw [copy_ev, ob6_ev, li_0, li_7, within_n s 0 7 (by omega) (by omega) (by omega), ob1_ev, if_neg (by decide), li_16, nI_add, chk_nI (by omega) (by omega), nm_ev, upd_fI, endless]
  have d := hI.2.2.2.2.2
  obtain ⟨a', q', c', l', t', e1, e2, e3⟩ := passTicks_ev hB hB2 n 1073741824 T _ _ _ _ _ t _ ((hR.cut h10 hz ta tv tq tc tl).set s w hs) (cut_lt hq hq2) hI hT h1 h2 (by omega) (by omega)
  rw [e1, ob6_ev]
  exact ⟨_, _, _, _, _, _, rfl, e2⟩
