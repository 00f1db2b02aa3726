theorem room_loop {B : Nat} (hB : 200000 ≤ B) (hB2 : B < 2000000000) (T n : Nat) (hT : T ≤ 100000) (h1 : 1 ≤ n) (h2 : n ≤ 999) (a v q c l : Nat → Nat) (t : Nat) (z : Nat → Nat) (hR : RZ a v q c l t z) (hq : ∀ j, q j < 4294967296) (hI : ZI T B 0 0 0 z) : ∀ (f k : Nat) (X : T6) (thn : Nat → Int32), 1 ≤ k → z 10 ≤ k → k ≤ 17 → 17 < f + k → ∃ r Y thn', fX4_leastRoom_28 f (fI a) (fI v) (fI q) (fI c) (fI l) (nI t) X.1 X.2.1 X.2.2.1 X.2.2.2.1 X.2.2.2.2.1 X.2.2.2.2.2 (nI n) (nI k) = some (w6 r Y) ∧ fX5_leastRoom_33 f (fI z) thn (nI n) (nI k) = some (r, thn') := by
  intro f
  induction f with
  | zero => intro k X thn g1 g2 g3 g4; omega
  | succ f ih =>
    intro k X thn g1 g2 g3 g4
    show ∃ r Y thn', fX4_leastRoom_28_b (fX4_leastRoom_28 f) (fI a) (fI v) (fI q) (fI c) (fI l) (nI t) X.1 X.2.1 X.2.2.1 X.2.2.2.1 X.2.2.2.2.1 X.2.2.2.2.2 (nI n) (nI k) = some (w6 r Y) ∧ fX5_leastRoom_33_b (fX5_leastRoom_33 f) (fI z) thn (nI n) (nI k) = some (r, thn')
    unfold fX4_leastRoom_28_b fX5_leastRoom_33_b
    rw [li_16]
    have cl := nI_lt31 (a := 16) (b := k) (by omega) (by omega)
    by_cases hk : 16 < k
    · rw [if_pos (cl.2 hk), if_pos (cl.2 hk)]
      exact ⟨_, X, _, rfl, rfl⟩
    · obtain ⟨th, rfl, hth⟩ := fI_of thn
      obtain ⟨s1, s2, s3, s4, s5, s6, s7, s8', s9, s10, s11, s12⟩ := id hI.2.1
      have c3 := hI.2.2.1.2.2.1
      have hI2 : ZI T B 0 0 0 (cut 234 z th) := hI.cut cut_in (cut_lt hI.1 hth)
      have hI3 : ZI T B 0 0 0 (uN (cut 234 z th) (1 + 2) k) := hI2.set 2 k ⟨by omega, by show 1 ≤ k; omega, by show k ≤ 16; omega, fun g => by omega, fun _ => by rw [cut_in 10 (by omega)]; exact g2⟩
      obtain ⟨ta, tv, tq, tc, tl, tt, e1, e2⟩ := try_c hB hB2 T n 2 k a v q c l t z (cut 234 z th) hR hq (by omega) cut_in (by omega) hI3 (by omega) h1 h2 X
      rw [if_neg (fun g => hk (cl.1 g)), if_neg (fun g => hk (cl.1 g)), tries_z, ob1_ev, nm_ev, upd_fI, passes_z hB n _ hI3 (by omega) (by omega), ob1_ev, more_0, ob1_ev, li_2, e1, ob6_ev, li_4, gain_c a ta z _ hR.1 e2.1 4 (by omega), ob1_ev]
      show ∃ r Y thn', (if nI (zpass (uN (cut 234 z th) (1 + 2) k) n 12) - nI (z 12) = 0 then _ else _) = some (w6 r Y) ∧ (if nI (zpass (uN (cut 234 z th) (1 + 2) k) n 12) - nI (z 12) = 0 then _ else _) = some (r, thn')
      by_cases hc : nI (zpass (uN (cut 234 z th) (1 + 2) k) n 12) - nI (z 12) = 0
      · rw [if_pos hc, if_pos hc]
        exact ⟨_, ⟨_, _, _, _, _, _⟩, _, rfl, rfl⟩
      · rw [if_neg hc, if_neg hc, nm_ev, nm_ev, li_1, nI_add]
        exact ih (k + 1) ⟨fI ta, fI tv, fI tq, fI tc, fI tl, nI tt⟩ _ (by omega) (by omega) (by omega) (by omega)
theorem leastRoom_c {B : Nat} (hB : 200000 ≤ B) (hB2 : B < 2000000000) (T : Nat) (hT : T ≤ 100000) (a v q c l : Nat → Nat) (t : Nat) (z : Nat → Nat) (hR : RZ a v q c l t z) (hq : ∀ j, q j < 4294967296) (hI : ZI T B 0 0 0 z) (X : T6) (thn : Nat → Int32) (x1 : Int32) : ∃ r Y thn', fX4_leastRoom (fI a) (fI v) (fI q) (fI c) (fI l) (nI t) X.1 X.2.1 X.2.2.1 X.2.2.2.1 X.2.2.2.2.1 X.2.2.2.2.2 x1 = some (w6 r Y) ∧ fX5_leastRoom (fI z) thn x1 = some (r, thn') := by
  unfold fX4_leastRoom fX5_leastRoom
  rw [areTicks_ev, li_1, li_999]
  obtain ⟨s1, s2, s3, s4, s5, s6, s7, s8', s9, s10, s11, s12⟩ := id hI.2.1
  have c3 := hI.2.2.1.2.2.1
  rcases in_nI x1 1 999 (by omega) (by omega) with h | ⟨n, rfl, n1, n2, h⟩
  · rw [h]
    exact ⟨-2, X, _, rfl, rfl⟩
  · rw [h]
    simp only [ob1_ev]
    rw [if_neg (show ¬ (1 : Int32) = 0 by decide), if_neg (show ¬ (1 : Int32) = 0 by decide), fI_ap, fI_ap, hR.1 2 (by omega), show z (mu 2) = z 10 from rfl, nm_ev, nm_ev]
    have c1 := nI_lt31 (a := 1) (b := z 10) (by omega) (by omega)
    have c2 := nI_le31 (a := z 10) (b := 1) (by omega) (by omega)
    by_cases g : 1 < z 10
    · rw [if_pos (c1.2 g), if_neg (fun e => by have := c2.1 e; omega)]
      exact room_loop hB hB2 T n hT n1 n2 a v q c l t z hR hq hI KF (z 10) X thn (by omega) (by omega) (by omega) (by rw [KF_eq]; omega)
    · rw [if_neg (fun e => g (c1.1 e)), if_pos (c2.2 (by omega))]
      exact room_loop hB hB2 T n hT n1 n2 a v q c l t z hR hq hI KF 1 X thn (by omega) (by omega) (by omega) (by rw [KF_eq]; omega)
