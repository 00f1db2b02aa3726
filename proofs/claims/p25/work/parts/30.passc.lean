/-! ===== the class lets ticks pass ===== -/
def minN (a b : Nat) : Nat := if a < b then a else b
theorem min_ev {a b : Nat} (ha : a < 2147483648) (hb : b < 2147483648) : (if nI a < nI b then nI a else nI b) = nI (minN a b) := by
  unfold minN
  by_cases h : a < b
  · rw [if_pos ((nI_lt31 ha hb).2 h), if_pos h]
  · rw [if_neg (fun g => h ((nI_lt31 ha hb).1 g)), if_neg h]
theorem max_ev {a : Nat} (ha : a < 2147483648) (h1 : 1 ≤ a) : (if nI 1 < nI a then nI a else nI 1) = nI a := by
  by_cases h : 1 < a
  · rw [if_pos ((nI_lt31 (by omega) ha).2 h)]
  · rw [if_neg (fun g => h ((nI_lt31 (by omega) ha).1 g)), show a = 1 by omega]
def stepN (a : Nat → Nat) (m : Nat) : Nat := minN m (minN (a 11) (a 10) - a 0)
theorem tail_c (rec : (Nat → Int32) → (Nat → Int32) → (Nat → Int32) → (Nat → Int32) → (Nat → Int32) → Int32 → Int32 → Int32 → Option (Int32 × (Nat → Int32) × (Nat → Int32) × (Nat → Int32) × (Nat → Int32) × Int32)) (a : Nat → Nat) (va qu sc lo : Nat → Int32) (t X m : Nat) (h10 : a 10 < 2147483648) (h11 : a 11 < 2147483648) (g10 : a 0 < a 10) (g11 : a 0 < a 11) (hm : 1 ≤ m) (hmX : m ≤ X) (hX : X < 2147483648) :
    (nm (((if (fI a 11) < (fI a 10) then (fI a 11) else (fI a 10)) - (fI a 0))) fun x4 =>
      nm ((if 1 < (if (nI X - nI (X - m)) < x4 then (nI X - nI (X - m)) else x4) then (if (nI X - nI (X - m)) < x4 then (nI X - nI (X - m)) else x4) else 1)) fun x5 =>
      nm ((nI t + (x5 * (fI a 2)))) fun wt =>
      nm (upd (fI a) 0 ((fI a 0) + x5)) fun nu =>
      nm ((nI (X - m) + x5)) fun x3 =>
      rec nu va qu sc lo wt (nI X) x3) = rec (fI (uN a 0 (a 0 + stepN a m))) va qu sc lo (nI (t + stepN a m * a 2)) (nI X) (nI (X - (m - stepN a m))) := by
  have s1 : minN (a 11) (a 10) < 2147483648 ∧ a 0 < minN (a 11) (a 10) := by
    unfold minN
    split <;> omega
  have s2 : 1 ≤ stepN a m ∧ stepN a m ≤ m := by
    unfold stepN
    generalize minN (a 11) (a 10) = g at s1
    unfold minN
    split <;> omega
  have e3 : X - m + stepN a m = X - (m - stepN a m) := by omega
  simp only [nm_ev, fI_ap]
  rw [min_ev h11 h10, nI_sub (show X - m ≤ X by omega), show X - (X - m) = m by omega, nI_sub (show a 0 ≤ minN (a 11) (a 10) by omega), li_1, min_ev (by omega) (by omega)]
  show (rec (upd (fI a) 0 (nI (a 0) + (if nI 1 < nI (stepN a m) then nI (stepN a m) else nI 1))) va qu sc lo (nI t + (if nI 1 < nI (stepN a m) then nI (stepN a m) else nI 1) * nI (a 2)) (nI X) (nI (X - m) + (if nI 1 < nI (stepN a m) then nI (stepN a m) else nI 1))) = _
  rw [max_ev (by omega) s2.1, nI_add, upd_fI, pk_mul, nI_add, nI_add, e3]
theorem RZ.step {a v q c l : Nat → Nat} {t : Nat} {z : Nat → Nat} {T B m : Nat} (hI : ZI T B 0 0 0 z) (hT : T ≤ 150000) (hB : 200000 ≤ B) (hR : RZ a v q c l t (zgo z)) (hm : 1 ≤ m) : 1 ≤ stepN a m ∧ stepN a m ≤ m ∧ RZ (uN a 0 (a 0 + stepN a m)) v q c l (t + stepN a m * a 2) (zpass z (stepN a m)) ∧ a 0 < a 10 ∧ a 0 < a 11 ∧ a 10 ≤ B ∧ a 11 ≤ B := by
  obtain ⟨g1, g2, g3, g4⟩ := hI.go hT hB
  have e0 : a 0 = zgo z 0 := hR.1 0 (by omega)
  have e10 : a 10 = zgo z 18 := hR.1 10 (by omega)
  have e11 : a 11 = zgo z 19 := hR.1 11 (by omega)
  have b1 := g1.2.2.2.2.2
  have s1 : minN (a 11) (a 10) ≤ zgo z 18 ∧ minN (a 11) (a 10) ≤ zgo z 19 ∧ a 0 < minN (a 11) (a 10) := by
    unfold minN
    split <;> omega
  have s2 : 1 ≤ stepN a m ∧ stepN a m ≤ m ∧ stepN a m ≤ minN (a 11) (a 10) - a 0 := by
    unfold stepN
    generalize minN (a 11) (a 10) = g at s1
    unfold minN
    split <;> omega
  refine ⟨s2.1, s2.2.1, ?_, by omega, by omega, by omega, by omega⟩
  rw [zpass_step z _ s2.1 (by omega) (by omega) g2]
  exact hR.quiet _
theorem passc_loop {B : Nat} (hB : 200000 ≤ B) (hB2 : B < 2000000000) (X : Nat) (hX : X < 2147483648) : ∀ (f m T : Nat) (a v q c l : Nat → Nat) (t : Nat) (z : Nat → Nat), RZ a v q c l t z → (∀ j, q j < 4294967296) → ZI T B 0 0 0 z → T + m ≤ 150001 → m ≤ X → m < f → ∃ a' q' c' l' t', fX2_passTicks_31 f (fI a) (fI v) (fI q) (fI c) (fI l) (nI t) (nI X) (nI (X - m)) = some (nI (zpass z m 0), fI a', fI q', fI c', fI l', nI t') ∧ RZ a' v q' c' l' t' (zpass z m) ∧ ∀ j, q' j < 4294967296 := by
  intro f
  induction f with
  | zero => intro m T a v q c l t z _ _ _ _ _ h; omega
  | succ f ih =>
    intro m T a v q c l t z hR hq hI hT hmX hf
    show ∃ a' q' c' l' t', fX2_passTicks_31_b (fX2_passTicks_31 f) (fI a) (fI v) (fI q) (fI c) (fI l) (nI t) (nI X) (nI (X - m)) = some (nI (zpass z m 0), fI a', fI q', fI c', fI l', nI t') ∧ RZ a' v q' c' l' t' (zpass z m) ∧ ∀ j, q' j < 4294967296
    have e0 : a 0 = z 0 := hR.1 0 (by omega)
    have e10 : a 10 = z 18 := hR.1 10 (by omega)
    have e11 : a 11 = z 19 := hR.1 11 (by omega)
    have z0 := hI.1 0
    have z18 := hI.1 18
    have z19 := hI.1 19
    unfold fX2_passTicks_31_b
    cases m with
    | zero =>
      rw [if_pos (by rw [nI_le31 (by omega) (by omega)]; omega), fI_ap, e0]
      exact ⟨a, q, c, l, t, rfl, hR, hq⟩
    | succ m =>
      rw [if_neg (by rw [nI_le31 (by omega) (by omega)]; omega)]
      -- once the tick's happenings are done
      have fin : ∀ a1 q1 c1 l1, RZ a1 v q1 c1 l1 t (zgo z) → (∀ j, q1 j < 4294967296) → ∃ a' q' c' l' t', (nm (((if (fI a1 11) < (fI a1 10) then (fI a1 11) else (fI a1 10)) - (fI a1 0))) fun x4 =>
      nm ((if 1 < (if (nI X - nI (X - (m + 1))) < x4 then (nI X - nI (X - (m + 1))) else x4) then (if (nI X - nI (X - (m + 1))) < x4 then (nI X - nI (X - (m + 1))) else x4) else 1)) fun x5 =>
      nm ((nI t + (x5 * (fI a1 2)))) fun wt =>
      nm (upd (fI a1) 0 ((fI a1 0) + x5)) fun nu =>
      nm ((nI (X - (m + 1)) + x5)) fun x3 =>
      (fX2_passTicks_31 f) nu (fI v) (fI q1) (fI c1) (fI l1) wt (nI X) x3) = some (nI (zpass z (m + 1) 0), fI a', fI q', fI c', fI l', nI t') ∧ RZ a' v q' c' l' t' (zpass z (m + 1)) ∧ ∀ j, q' j < 4294967296 := by
        intro a1 q1 c1 l1 hR1 hq1
        obtain ⟨s1, s2, s3, s4, s5, s6, s7⟩ := RZ.step hI (by omega) hB hR1 (show 1 ≤ m + 1 by omega)
        rw [tail_c _ a1 _ _ _ _ t X (m + 1) (by omega) (by omega) s4 s5 (by omega) hmX hX]
        generalize stepN a1 (m + 1) = s at s1 s2 s3
        have hI2 := ZI.pass hB s T z hI (by omega)
        obtain ⟨a', q', c', l', t', r1, r2, r3⟩ := ih (m + 1 - s) (T + s) _ _ _ _ _ _ _ s3 hq1 hI2 (by omega) (by omega) (by omega)
        rw [← zpass_add, show s + (m + 1 - s) = m + 1 by omega] at r1 r2
        exact ⟨a', q', c', l', t', r1, r2, r3⟩
      have hgo : ∀ y, zgo z = y → (∀ a1 q1 c1 l1, RZ a1 v q1 c1 l1 t y → RZ a1 v q1 c1 l1 t (zgo z)) := fun y hy a1 q1 c1 l1 h => by rw [hy]; exact h
      simp only [fI_ap a 0, fI_ap a 10, fI_ap a 11, e0, e10, e11]
      by_cases h18 : z 18 = z 0
      · obtain ⟨i1, i2, i3, i4, iK⟩ := hI.come h18 (by omega) hB
        obtain ⟨a1, q1, l1, r1, r2, r3⟩ := comes_c a v q c l t z hR hq iK
        rw [if_pos (by rw [h18]), r1, ob3_ev]
        have f0 : a1 0 = zcome z 0 := r2.1 0 (by omega)
        have f11 : a1 11 = zcome z 19 := r2.1 11 (by omega)
        have y0 := i1.1 0
        have y19 := i1.1 19
        simp only [fI_ap a1 0, fI_ap a1 11, f0, f11]
        by_cases h19 : zcome z 19 = zcome z 0
        · obtain ⟨a2, q2, c2, l2, u1, u2, u3⟩ := out_c a1 v q1 c l1 t (zcome z) r2 r3 (i1.KQ (by omega) (by omega) (by omega))
          rw [if_pos (by rw [h19]), u1, ob4_ev]
          exact fin a2 q2 c2 l2 (by unfold zgo; rw [if_pos h18, if_pos h19]; exact u2) u3
        · rw [if_neg (by rw [nI_eq32 y0 y19]; exact fun g => h19 g.symm)]
          have := fin a1 q1 c l1 (by unfold zgo; rw [if_pos h18, if_neg h19]; exact r2) r3
          rw [fI_ap a1 0, fI_ap a1 11, f0, f11] at this
          exact this
      · rw [if_neg (by rw [nI_eq32 z0 z18]; exact fun g => h18 g.symm)]
        by_cases h19 : z 19 = z 0
        · obtain ⟨a2, q2, c2, l2, u1, u2, u3⟩ := out_c a v q c l t z hR hq (hI.KQ (by omega) (by omega) (by omega))
          rw [if_pos (by rw [h19]), u1, ob4_ev]
          exact fin a2 q2 c2 l2 (by unfold zgo; rw [if_neg h18, if_pos h19]; exact u2) u3
        · rw [if_neg (by rw [nI_eq32 z0 z19]; exact fun g => h19 g.symm)]
          have := fin a q c l (by unfold zgo; rw [if_neg h18, if_neg h19]; exact hR) hq
          rw [fI_ap a 0, fI_ap a 10, fI_ap a 11, e0, e10, e11] at this
          exact this
