theorem zpass_I {B : Nat} (hB : 200000 ≤ B) (n T : Nat) (z : Nat → Nat) (h : ZI T B 0 0 0 z) (hT : T + n ≤ 150001) : zpass z n 12 < 200000 ∧ zpass z n 14 < 200000 := by
  obtain ⟨h1, h2, ⟨c1, c2, c3, c4, c5, c6, c7, c8, c9, c10⟩, h4, h5, ⟨d1, d2, d3, d4, d5, d6⟩⟩ := ZI.pass hB n T z h hT
  omega
theorem best_loop {B : Nat} (hB : 200000 ≤ B) (hB2 : B < 2000000000) (T n : Nat) (hT : T ≤ 100000) (h1 : 1 ≤ n) (h2 : n ≤ 999) (a v q c l : Nat → Nat) (t : Nat) (z : Nat → Nat) (hR : RZ a v q c l t z) (hq : ∀ j, q j < 4294967296) (hI : ZI T B 0 0 0 z) (w : Int32) : ∀ (f k : Nat) (X : T6) (thn : Nat → Int32) (b b2 m m2 : Int32), 1 ≤ k → k ≤ 100 → 100 < f + k → (b = 0 ∧ b2 = 0 ∧ m = nI 1073741824 ∧ k ≤ 99 ∨ b = b2 ∧ m = m2 ∧ b2 ≠ 0) → ∃ r Y thn', fX4_bestOut_32 f (fI a) (fI v) (fI q) (fI c) (fI l) (nI t) X.1 X.2.1 X.2.2.1 X.2.2.2.1 X.2.2.2.2.1 X.2.2.2.2.2 (nI n) w b m (nI k) = some (w6 r Y) ∧ fX5_bestOut_27 f (fI z) thn (nI n) w b2 m2 (nI k) = some (r, thn') := by
  intro f
  induction f with
  | zero => intro k X thn b b2 m m2 g1 g3 g4; omega
  | succ f ih =>
    intro k X thn b b2 m m2 g1 g3 g4 hbm
    show ∃ r Y thn', fX4_bestOut_32_b (fX4_bestOut_32 f) (fI a) (fI v) (fI q) (fI c) (fI l) (nI t) X.1 X.2.1 X.2.2.1 X.2.2.2.1 X.2.2.2.2.1 X.2.2.2.2.2 (nI n) w b m (nI k) = some (w6 r Y) ∧ fX5_bestOut_27_b (fX5_bestOut_27 f) (fI z) thn (nI n) w b2 m2 (nI k) = some (r, thn')
    unfold fX4_bestOut_32_b fX5_bestOut_27_b
    rw [li_99]
    have cl := nI_lt31 (a := 99) (b := k) (by omega) (by omega)
    by_cases hk : 99 < k
    · rcases hbm with ⟨-, -, -, g⟩ | ⟨e1, e2, -⟩
      · omega
      · subst e1 e2
        rw [if_pos (cl.2 hk), if_pos (cl.2 hk)]
        by_cases hw : w = 0
        · rw [if_pos hw, if_pos hw]
          exact ⟨_, X, _, rfl, rfl⟩
        · rw [if_neg hw, if_neg hw]
          exact ⟨_, X, _, rfl, rfl⟩
    · obtain ⟨th, rfl, hth⟩ := fI_of thn
      obtain ⟨s1, s2, s3, s4, s5, s6, s7, s8', s9, s10, s11, s12⟩ := id hI.2.1
      have c3 := hI.2.2.1.2.2.1
      have hI2 : ZI T B 0 0 0 (cut 234 z th) := hI.cut cut_in (cut_lt hI.1 hth)
      have hI3 : ZI T B 0 0 0 (uN (cut 234 z th) (1 + 1) k) := hI2.set 1 k ⟨by omega, by show 1 ≤ k; omega, by show k ≤ 99; omega, fun g => by omega, fun g => by omega⟩
      obtain ⟨ta, tv, tq, tc, tl, tt, e1, e2⟩ := try_c hB hB2 T n 1 k a v q c l t z (cut 234 z th) hR hq (by omega) cut_in (by omega) hI3 (by omega) h1 h2 X
      have hp := zpass_I hB n T _ hI3 (by omega)
      have g4 := gain_c a ta z _ hR.1 e2.1 4 (by omega)
      have g6 := gain_c a ta z _ hR.1 e2.1 6 (by omega)
      have m4 : mu 4 = 12 := rfl
      have m6 : mu 6 = 14 := rfl
      rw [m4] at g4
      rw [m6] at g6
      have hb0 := hI.2.2.1
      have hb1 := hI.2.2.2.2.2
      rw [if_neg (fun g => hk (cl.1 g)), if_neg (fun g => hk (cl.1 g)), tries_z, ob1_ev, nm_ev, upd_fI, passes_z hB n _ hI3 (by omega) (by omega), ob1_ev, more_0, ob1_ev, more_1, ob1_ev, nm_ev, li_1, e1, ob6_ev, li_4, g4, ob1_ev, li_6, g6, ob1_ev]
      simp only [nm_ev]
      rw [nI_add k 1]
      show ∃ r Y thn', (if m ≤ nI (zpass (uN (cut 234 z th) (1 + 1) k) n 12) - nI (z 12) + (nI (zpass (uN (cut 234 z th) (1 + 1) k) n 14) - nI (z 14)) then _ else _) = some (w6 r Y) ∧ (if b2 = 0 then _ else if m2 ≤ nI (zpass (uN (cut 234 z th) (1 + 1) k) n 12) - nI (z 12) + (nI (zpass (uN (cut 234 z th) (1 + 1) k) n 14) - nI (z 14)) then _ else _) = some (r, thn')
      have hx : ∀ p1 p2 p3 p4 : Nat, p1 < 200000 → p2 < 200000 → p3 < 400000 → p4 < 400000 → ¬ nI 1073741824 ≤ nI p1 - nI p3 + (nI p2 - nI p4) := by
        intro p1 p2 p3 p4 q1 q2 q3 q4 g
        have r1 := pk_sub_toInt (a := p1) (b := p3) (by omega) (by omega)
        have r2 := pk_sub_toInt (a := p2) (b := p4) (by omega) (by omega)
        rw [Int32.le_iff_toInt_le, Int32.toInt_add, r1, r2, nI_toInt (by omega)] at g
        rw [Int.bmod_eq_of_le (by omega) (by omega)] at g
        omega
      have hx2 := hx _ _ (z 12) (z 14) hp.1 hp.2 (by omega) (by omega)
      have kn : nI k ≠ 0 := nI_ne0 (by omega) (by omega)
      generalize nI (zpass (uN (cut 234 z th) (1 + 1) k) n 12) - nI (z 12) + (nI (zpass (uN (cut 234 z th) (1 + 1) k) n 14) - nI (z 14)) = F at hx2
      rcases hbm with ⟨b1, b2', b3, -⟩ | ⟨e1', e2', e3'⟩
      · subst b1 b2' b3
        rw [if_neg hx2, if_pos rfl]
        exact ih (k + 1) ⟨fI ta, fI tv, fI tq, fI tc, fI tl, nI tt⟩ _ _ _ _ _ (by omega) (by omega) (by omega) (Or.inr ⟨rfl, rfl, kn⟩)
      · subst e1' e2'
        rw [if_neg e3']
        by_cases hc : m ≤ F
        · rw [if_pos hc, if_pos hc]
          exact ih (k + 1) ⟨fI ta, fI tv, fI tq, fI tc, fI tl, nI tt⟩ _ _ _ _ _ (by omega) (by omega) (by omega) (Or.inr ⟨rfl, rfl, e3'⟩)
        · rw [if_neg hc, if_neg hc]
          exact ih (k + 1) ⟨fI ta, fI tv, fI tq, fI tc, fI tl, nI tt⟩ _ _ _ _ _ (by omega) (by omega) (by omega) (Or.inr ⟨rfl, rfl, kn⟩)
theorem bestOut_c {B : Nat} (hB : 200000 ≤ B) (hB2 : B < 2000000000) (T : Nat) (hT : T ≤ 100000) (a v q c l : Nat → Nat) (t : Nat) (z : Nat → Nat) (hR : RZ a v q c l t z) (hq : ∀ j, q j < 4294967296) (hI : ZI T B 0 0 0 z) (X : T6) (thn : Nat → Int32) (x1 x2 : Int32) : ∃ r Y thn', fX4_bestOut (fI a) (fI v) (fI q) (fI c) (fI l) (nI t) X.1 X.2.1 X.2.2.1 X.2.2.2.1 X.2.2.2.2.1 X.2.2.2.2.2 x1 x2 = some (w6 r Y) ∧ fX5_bestOut (fI z) thn x1 x2 = some (r, thn') := by
  unfold fX4_bestOut fX5_bestOut
  rw [areTicks_ev, in_eq, li_1, li_999]
  rcases in_nI x1 1 999 (by omega) (by omega) with h | ⟨n, rfl, n1, n2, h⟩
  · rw [h]
    exact ⟨-2, X, _, rfl, rfl⟩
  · rw [h]
    simp only [ob1_ev]
    rw [if_neg (by decide), if_neg (by decide)]
    rcases within_01 x2 0 (nI 1) with h2 | h2
    · rw [h2]
      exact ⟨-2, X, _, rfl, rfl⟩
    · rw [h2, ob1_ev, ob1_ev, if_neg (by decide), if_neg (by decide), endless]
      exact best_loop hB hB2 T n hT n1 n2 a v q c l t z hR hq hI x2 KF 1 X thn 0 0 _ 0 (by omega) (by omega) (by rw [KF_eq]; omega) (Or.inl ⟨rfl, rfl, rfl, by omega⟩)
