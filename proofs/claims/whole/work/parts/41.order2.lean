/-! ===== an order of the text is carried out alike ===== -/
def ZN (z : Nat → Nat) : Prop := z 0 = 0 → z 15 = 0 ∧ z 16 = 0
theorem ZI.tight {T B : Nat} {z : Nat → Nat} (h : ZI T B 0 0 0 z) : ZI (z 0) B 0 0 0 z := by
  obtain ⟨g1, g2, g3, g4, g5, ⟨d1, d2, d3, d4, d5, d6⟩⟩ := h
  exact ⟨g1, g2, g3, g4, g5, ⟨d1, Nat.le_refl _, d3, d4, d5, d6⟩⟩
theorem ZI.passed {B : Nat} {z : Nat → Nat} (hB : 200000 ≤ B) (h : ZI 99999 B 0 0 0 z) (n : Nat) (hn : z 0 + n ≤ 99999) : ZI 99999 B 0 0 0 (zpass z n) :=
  (ZI.pass hB n (z 0) z h.tight (by omega)).mono hn (Nat.le_refl _) (Nat.le_refl _) (Nat.le_refl _)
def orderOut (B : Nat) (a v q c l : Nat → Nat) (t : Nat) (z : Nat → Nat) (C : Option (Int32 × (Nat → Int32) × (Nat → Int32) × (Nat → Int32) × (Nat → Int32) × (Nat → Int32) × Int32)) (D : Option (Int32 × (Nat → Int32))) : Prop :=
  (∃ r, r < 0 ∧ C = some (r, fI a, fI v, fI q, fI c, fI l, nI t) ∧ D = some (0, fI z)) ∨
  ∃ r a' v' q' c' l' t' z', r < 2147483648 ∧ C = some (nI r, fI a', fI v', fI q', fI c', fI l', nI t') ∧ D = some (1, fI z') ∧ RZ a' v' q' c' l' t' z' ∧ (∀ j, q' j < 4294967296) ∧ ZI 99999 (B + 99) 0 0 0 z' ∧ (ZN z → ZN z')
theorem order_slip {B : Nat} (hB2 : B + 99 < 2000000000) (a v q c l : Nat → Nat) (t : Nat) (z : Nat → Nat) (hR : RZ a v q c l t z) (hq : ∀ j, q j < 4294967296) (hI : ZI 99999 B 0 0 0 z) (k f : Nat) (hk : k < 2) (hf : f ≤ 999) (D : Option (Int32 × (Nat → Int32))) (hD : D = ob1 (fX5_maySlip 0 (nI f)) fun r => if r = 0 then ob2 (fX5_slips (fI z) (nI k) (nI f)) fun r2 n2 => some (1, n2) else some (0, fI z)) :
    orderOut B a v q c l t z (ob2 (fX2_delayClock (fI a) (nI k) (nI f)) fun r n => some (r, n, fI v, fI q, fI c, fI l, nI t)) D := by
  have e : a (10 + k) = z (18 + k) := by rw [hR.1 (10 + k) (by omega)]; congr 1; unfold mu; rw [if_neg (by omega), if_pos (by omega)]; omega
  have hz := hI.1 (18 + k)
  have d := hI.2.2.2.2.2
  have hb : z (18 + k) ≤ B := by
    rcases (show k = 0 ∨ k = 1 by omega) with rfl | rfl
    · exact d.2.2.1
    · exact d.2.2.2.1
  subst hD
  rcases maySlip_ev (nI k) (nI f) with ⟨r, h0, h1, h2⟩ | ⟨k2, f2, k3, f3, f4, hk2, hf2, h1, h2⟩
  · rcases maySlip_ev 0 (nI f) with ⟨r', h0', h1', -⟩ | ⟨k2, f2, k3, f3, f4, hk2, hf2, h1', h2'⟩
    · rw [h2, ob2_ev, h1', ob1_ev, if_neg (fun g => by rw [g] at h0'; exact absurd h0' (by decide))]
      exact Or.inl ⟨r, h0, rfl, rfl⟩
    · have hf2 := (nI_eq32 (by omega) (by omega)).1 hf2
      subst hf2
      rcases (show k = 0 ∨ k = 1 by omega) with rfl | rfl
      · rw [show nI 0 = 0 from rfl, h1'] at h1
        cases h1
        exact absurd h0 (by decide)
      · unfold fX5_maySlip at h1
        rw [in_eq, in_eq, li_0, li_1, li_99, within_n 1 0 1 (by omega) (by omega) (by omega), ob1_ev, if_neg n1z, within_n f 1 99 (by omega) (by omega) (by omega), ob1_ev, if_neg n1z] at h1
        cases h1
        exact absurd h0 (by decide)
  · have hk2 := (nI_eq32 (by omega) (by omega)).1 hk2
    have hf2 := (nI_eq32 (by omega) (by omega)).1 hf2
    subst hk2 hf2
    have h1' : fX5_maySlip 0 (nI f) = some 0 := by
      unfold fX5_maySlip
      rw [in_eq, in_eq, li_0, li_1, li_99, within_n 0 0 1 (by omega) (by omega) (by omega), ob1_ev, if_neg n1z, within_n f 1 99 (by omega) (by omega) (by omega), ob1_ev, if_neg n1z]
    rw [h2 a, ob2_ev, h1', ob1_ev, if_pos e00, slips_z z k f hk, ob2_ev, e]
    exact Or.inr ⟨_, _, _, _, _, _, _, _, by omega, rfl, rfl, hR.slip k _ hk, hq, hI.slip k f hk (by omega) (by omega), fun g g0 => by
      rw [uN_n (by omega)] at g0
      rw [uN_n (by omega), uN_n (by omega)]
      exact g g0⟩
theorem order_set {B : Nat} (a v q c l : Nat → Nat) (t : Nat) (z : Nat → Nat) (hR : RZ a v q c l t z) (hq : ∀ j, q j < 4294967296) (hI : ZI 99999 B 0 0 0 z) (k f : Nat) (hk : k < 2) (hf : f ≤ 999) (D : Option (Int32 × (Nat → Int32))) (hD : D = if loS k ≤ f ∧ f ≤ hiS k then ob2 (fX5_changes (fI z) (nI (1 + k)) (nI f)) fun r2 n2 => some (1, n2) else some (0, fI z)) :
    orderOut B a v q c l t z (ob2 (fX2_changeSetting (fI a) (nI k) (nI f)) fun r n => some (r, n, fI v, fI q, fI c, fI l, nI t)) D := by
  subst hD
  rw [set01_c a k f hk (by omega)]
  have e : a (16 + k) = z (1 + k) := by rw [hR.1 (16 + k) (by omega)]; congr 1; unfold mu; rw [if_neg (by omega), if_neg (by omega)]; omega
  by_cases g : loS k ≤ f ∧ f ≤ hiS k
  · rw [if_pos g, if_pos g, ob2_ev, changes_z z _ _ (by omega), ob2_ev]
    have hb : a (16 + k) ≤ 99 := by
      obtain ⟨s1, s2, s3, s4, -⟩ := hI.2.1
      rw [e]
      rcases (show k = 0 ∨ k = 1 by omega) with rfl | rfl
      · exact s2
      · exact s4
    refine Or.inr ⟨_, _, _, _, _, _, _, _, by omega, rfl, rfl, hR.set k f (by omega), hq, (hI.set k f ⟨by omega, g.1, g.2, fun g => by omega, fun g => by omega⟩).mono (Nat.le_refl _) (by omega) (Nat.le_refl _) (Nat.le_refl _), fun gn g0 => ?_⟩
    rw [uN_n (by omega)] at g0
    rw [uN_n (by omega), uN_n (by omega)]
    exact gn g0
  · rw [if_neg g, if_neg g, ob2_ev]
    exact Or.inl ⟨-2, by decide, rfl, rfl⟩
theorem order_pass {B : Nat} (hB : 200000 ≤ B) (hB2 : B < 2000000000) (a v q c l : Nat → Nat) (t : Nat) (z : Nat → Nat) (hR : RZ a v q c l t z) (hq : ∀ j, q j < 4294967296) (hI : ZI 99999 B 0 0 0 z) (f : Nat) (hf : f ≤ 999) (D : Option (Int32 × (Nat → Int32))) (hD : D = ob1 (fX5_mayPass (fI z) (nI f)) fun r => if r = 0 then ob1 (fX5_passes (fI z) (nI f)) fun n2 => some (1, n2) else some (0, fI z)) :
    orderOut B a v q c l t z (ob6 (fX2_passTicks (fI a) (fI v) (fI q) (fI c) (fI l) (nI t) (nI f) 99999) fun r n q c l t => some (r, n, fI v, q, c, l, t)) D := by
  subst hD
  have d := hI.2.2.2.2.2
  rcases mayPass_ev z (nI f) (by omega) with ⟨r, h0, h1, h2⟩ | ⟨n, n1, n2, hn, n3, h1⟩
  · rw [h2 _ _ _ _ _ _ (by rw [fI_ap, hR.1 0 (by omega)]; rfl), ob6_ev, h1, ob1_ev, if_neg (fun g => by rw [g] at h0; exact absurd h0 (by decide))]
    exact Or.inl ⟨r, h0, rfl, rfl⟩
  · have hn := (nI_eq32 (by omega) (by omega)).1 hn
    subst hn
    obtain ⟨a', q', c', l', t', e1, e2, e3⟩ := passTicks_ev hB hB2 f 99999 99999 a v q c l t z hR hq hI (by omega) n1 n2 (by omega) (by omega)
    have hp := hI.passed hB f n3
    have h0 := zpass_0 hB f (z 0) z hI.tight (by omega)
    rw [li_99999, e1, ob6_ev, h1, ob1_ev, if_pos e00, passes_z hB f z hI (by omega) (by omega), ob1_ev]
    exact Or.inr ⟨_, _, _, _, _, _, _, _, by omega, rfl, rfl, e2, e3, hp.mono (Nat.le_refl _) (by omega) (Nat.le_refl _) (Nat.le_refl _), fun _ g0 => by omega⟩
theorem order_value {B : Nat} (a v q c l : Nat → Nat) (t : Nat) (z : Nat → Nat) (hR : RZ a v q c l t z) (hq : ∀ j, q j < 4294967296) (hI : ZI 99999 B 0 0 0 z) (f s : Nat) (hf : f ≤ 999) (hs : s ≤ 999) (D : Option (Int32 × (Nat → Int32))) (hD : D = ob1 (fX5_mayTell (nI f) (nI s)) fun r => if r = 0 then ob2 (fX5_changes (fI z) (nI (26 + f)) (nI s)) fun r2 n2 => some (1, n2) else some (0, fI z)) :
    orderOut B a v q c l t z (ob2 (fX2_changeValue (fI v) (nI f) (nI s)) fun r n => some (r, fI a, n, fI q, fI c, fI l, nI t)) D := by
  subst hD
  rcases mayTell_ev (nI f) (nI s) with ⟨r, h0, h1, h2⟩ | ⟨k, y, hk, hy, e1, e2, h1, h2⟩
  · rw [h2, ob2_ev, h1, ob1_ev, if_neg (fun g => by rw [g] at h0; exact absurd h0 (by decide))]
    exact Or.inl ⟨r, h0, rfl, rfl⟩
  · have e1 := (nI_eq32 (by omega) (by omega)).1 e1
    have e2 := (nI_eq32 (by omega) (by omega)).1 e2
    subst e1 e2
    have hv : v f ≤ 255 := by rw [hR.2.1 f hk]; exact hI.2.2.2.1 f hk
    rw [h2 v, ob2_ev, h1, ob1_ev, if_pos e00, changes_z z _ _ (by omega), ob2_ev]
    refine Or.inr ⟨_, _, _, _, _, _, _, _, by omega, rfl, rfl, hR.value f s hk, hq, (hI.value f s hk hy).mono (Nat.le_refl _) (by omega) (Nat.le_refl _) (Nat.le_refl _), fun gn g0 => ?_⟩
    rw [uN_n (by omega)] at g0
    rw [uN_n (by omega), uN_n (by omega)]
    exact gn g0
theorem order_op {B : Nat} (hB : 200000 ≤ B) (hB2 : B + 99 < 2000000000) (a v q c l : Nat → Nat) (t : Nat) (z : Nat → Nat) (hR : RZ a v q c l t z) (hq : ∀ j, q j < 4294967296) (hI : ZI 99999 B 0 0 0 z) (o f s m : Nat) (ords : Nat → Int32) (hod : isOd o) (hf : f ≤ 999) (hs : s ≤ 999) (hm : 3 * m + 2 < 123) (hk : kept3 ords m o f s) :
    orderOut B a v q c l t z (fX4_carryOutOrder (fI a) (fI v) (fI q) (fI c) (fI l) (nI t) (nI o) (nI f) (nI s)) (fX5_does (fI z) ords (nI m)) := by
  obtain ⟨k1, k2, k3⟩ := hk
  rw [does_ev _ _ m hm, k1, k2]
  unfold fX4_carryOutOrder fX5_mayDo
  rcases hod with rfl | rfl | rfl | rfl | rfl | rfl
  · rw [if_neg (show ¬ nI 105 = 60 by decide), if_neg (show ¬ nI 105 = 62 by decide)]
    simp only [if_pos (show nI 105 = 105 by decide)]
    refine order_set a v q c l t z hR hq hI 0 f (by omega) hf _ ?_
    rw [show (0 : Int32) = nI 0 from rfl, isFor01 0 f (by omega) (by omega)]
    by_cases g : loS 0 ≤ f ∧ f ≤ hiS 0
    · rw [if_pos g, if_pos g]
      rfl
    · rw [if_neg g, if_neg g]
      rfl
  · rw [if_neg (show ¬ nI 111 = 60 by decide), if_neg (show ¬ nI 111 = 62 by decide)]
    simp only [if_neg (show ¬ nI 111 = 105 by decide), if_pos (show nI 111 = 111 by decide)]
    refine order_set a v q c l t z hR hq hI 1 f (by omega) hf _ ?_
    rw [show (1 : Int32) = nI 1 from rfl, isFor01 1 f (by omega) (by omega)]
    by_cases g : loS 1 ≤ f ∧ f ≤ hiS 1
    · rw [if_pos g, if_pos g]
      rfl
    · rw [if_neg g, if_neg g]
      rfl
  · simp only [if_neg (show ¬ nI 118 = 60 by decide), if_neg (show ¬ nI 118 = 62 by decide), if_neg (show ¬ nI 118 = 105 by decide), if_neg (show ¬ nI 118 = 111 by decide), if_neg (show ¬ nI 118 = 116 by decide), if_pos (show nI 118 = 118 by decide)]
    refine order_value a v q c l t z hR hq hI f s hf hs _ ?_
    rw [k3 rfl, li_26, nI_add]
    cases fX5_mayTell (nI f) (nI s) <;> rfl
  · simp only [if_neg (show ¬ nI 116 = 60 by decide), if_neg (show ¬ nI 116 = 62 by decide), if_neg (show ¬ nI 116 = 105 by decide), if_neg (show ¬ nI 116 = 111 by decide), if_pos (show nI 116 = 116 by decide)]
    refine order_pass hB (by omega) a v q c l t z hR hq hI f hf _ ?_
    cases fX5_mayPass (fI z) (nI f) <;> rfl
  · simp only [if_pos (show nI 60 = 60 by decide), if_neg (show ¬ nI 60 = 118 by decide), if_neg (show ¬ nI 60 = 105 by decide), if_neg (show ¬ nI 60 = 111 by decide), if_neg (show ¬ nI 60 = 116 by decide)]
    refine order_slip hB2 a v q c l t z hR hq hI 0 f (by omega) hf _ ?_
    cases fX5_maySlip 0 (nI f) <;> rfl
  · simp only [if_neg (show ¬ nI 62 = 60 by decide), if_pos (show nI 62 = 62 by decide), if_neg (show ¬ nI 62 = 118 by decide), if_neg (show ¬ nI 62 = 105 by decide), if_neg (show ¬ nI 62 = 111 by decide), if_neg (show ¬ nI 62 = 116 by decide)]
    refine order_slip hB2 a v q c l t z hR hq hI 1 f (by omega) hf _ ?_
    cases fX5_maySlip 0 (nI f) <;> rfl
