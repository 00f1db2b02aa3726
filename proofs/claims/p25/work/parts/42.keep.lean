/-! ===== an order, both sides ===== -/
theorem RZ.value {a v q c l : Nat → Nat} {t : Nat} {z : Nat → Nat} (h : RZ a v q c l t z) (k y : Nat) (hk : k < 16) : RZ a (uN v k y) q c l t (uN z (26 + k) y) := by
  obtain ⟨hA, hV, hQ, hC, hL, hT⟩ := h
  have lo : ∀ j, j < 26 ∨ 42 ≤ j → uN z (26 + k) y j = z j := fun j hj => uN_n (by omega)
  refine ⟨hA.ext fun j hj => lo j (by omega), fun j hj => ?_, fun p x hp hx => ?_, hC.ext fun j g1 g2 => lo j (by omega), hL.ext (lo 12 (by omega)) fun j g => lo j (by omega), hT.trans (lo 25 (by omega)).symm⟩
  · by_cases e : j = k
    · subst e
      rw [uN_s, uN_s]
    · rw [uN_n e, uN_n (by omega)]
      exact hV j hj
  · rw [lo 10 (by omega)] at hp
    rw [lo _ (by omega)]
    exact hQ p x hp hx
theorem ZI.value {T B : Nat} {z : Nat → Nat} (h : ZI T B 0 0 0 z) (k y : Nat) (hk : k < 16) (hy : y ≤ 255) : ZI T B 0 0 0 (uN z (26 + k) y) := by
  obtain ⟨h1, h2, ⟨c1, c2, c3, c4, c5, c6, c7, c8, c9, c10⟩, h4, h5, ⟨d1, d2, d3, d4, d5, d6⟩⟩ := h
  have lo : ∀ j, j < 26 ∨ 42 ≤ j → uN z (26 + k) y j = z j := fun j hj => uN_n (by omega)
  refine ⟨lt_uN h1 _ _ (by omega), ?_, ⟨?_, ?_, ?_, ?_, ?_, ?_, ?_, ?_, ?_, ?_⟩, fun j hj => ?_, fun p hp => ?_, ⟨?_, ?_, ?_, ?_, ?_, ?_⟩⟩
  · unfold ZS at h2 ⊢
    simp (disch := omega) only [lo]
    exact h2
  all_goals try simp (disch := omega) only [lo]
  all_goals first | omega | skip
  · by_cases e : j = k
    · subst e
      rw [uN_s]
      exact hy
    · rw [uN_n (by omega)]
      exact h4 j hj
  · rw [lo 10 (by omega)] at hp
    exact h5 p hp
theorem RZ.slip {a v q c l : Nat → Nat} {t : Nat} {z : Nat → Nat} (h : RZ a v q c l t z) (k x : Nat) (hk : k < 2) : RZ (uN a (10 + k) x) v q c l t (uN z (18 + k) x) := by
  obtain ⟨hA, hV, hQ, hC, hL, hT⟩ := h
  have hi : ∀ j, j < 18 ∨ 20 ≤ j → uN z (18 + k) x j = z j := fun j hj => uN_n (by omega)
  refine ⟨hA.up (10 + k) x (by omega) (by unfold mu; rw [if_neg (by omega), if_pos (by omega)]; omega), hV.ext fun j g1 g2 => hi j (by omega), fun p y hp hy => ?_, hC.ext fun j g1 g2 => hi j (by omega), hL.ext (hi 12 (by omega)) fun j g => hi j (by omega), hT.trans (hi 25 (by omega)).symm⟩
  rw [hi 10 (by omega)] at hp
  rw [hi _ (by omega)]
  exact hQ p y hp hy
theorem ZI.slip {T B : Nat} {z : Nat → Nat} (h : ZI T B 0 0 0 z) (k x : Nat) (hk : k < 2) (hx : x ≤ 99) (hB2 : B < 2000000000) : ZI T (B + 99) 0 0 0 (uN z (18 + k) (z (18 + k) + x)) := by
  obtain ⟨h1, h2, ⟨c1, c2, c3, c4, c5, c6, c7, c8, c9, c10⟩, h4, h5, ⟨d1, d2, d3, d4, d5, d6⟩⟩ := h
  have lo : ∀ j, j < 18 ∨ 20 ≤ j → uN z (18 + k) (z (18 + k) + x) j = z j := fun j hj => uN_n (by omega)
  have hb : z (18 + k) ≤ B ∧ z 0 ≤ z (18 + k) := by
    rcases (show k = 0 ∨ k = 1 by omega) with rfl | rfl
    · exact ⟨d3, d5⟩
    · exact ⟨d4, d6⟩
  have n18 : uN z (18 + k) (z (18 + k) + x) 18 ≤ B + 99 ∧ z 0 ≤ uN z (18 + k) (z (18 + k) + x) 18 := by
    unfold uN
    split <;> omega
  have n19 : uN z (18 + k) (z (18 + k) + x) 19 ≤ B + 99 ∧ z 0 ≤ uN z (18 + k) (z (18 + k) + x) 19 := by
    unfold uN
    split <;> omega
  refine ⟨lt_uN h1 _ _ (by omega), ?_, ⟨?_, ?_, ?_, ?_, ?_, ?_, ?_, ?_, ?_, ?_⟩, fun j hj => ?_, fun p hp => ?_, ⟨?_, ?_, ?_, ?_, ?_, ?_⟩⟩
  · unfold ZS at h2 ⊢
    simp (disch := omega) only [lo]
    exact h2
  all_goals try simp (disch := omega) only [lo]
  all_goals first | omega | exact h4 _ hj | skip
  rw [lo 10 (by omega)] at hp
  exact h5 p hp
/-! ===== an order of the text is carried out alike ===== -/
def ZN (z : Nat → Nat) : Prop := z 0 = 0 → z 15 = 0 ∧ z 16 = 0
theorem ZI.tight {T B : Nat} {z : Nat → Nat} (h : ZI T B 0 0 0 z) : ZI (z 0) B 0 0 0 z := by
  obtain ⟨g1, g2, g3, g4, g5, ⟨d1, d2, d3, d4, d5, d6⟩⟩ := h
  exact ⟨g1, g2, g3, g4, g5, ⟨d1, Nat.le_refl _, d3, d4, d5, d6⟩⟩
theorem ZI.passed {B : Nat} {z : Nat → Nat} (hB : 200000 ≤ B) (h : ZI 99999 B 0 0 0 z) (n : Nat) (hn : z 0 + n ≤ 99999) : ZI 99999 B 0 0 0 (zpass z n) :=
  (ZI.pass hB n (z 0) z h.tight (by omega)).mono hn (Nat.le_refl _) (Nat.le_refl _) (Nat.le_refl _)
/-! ===== what is kept: the reference's past, the class's ring ===== -/
theorem RZ.agree {a v q c l : Nat → Nat} {t : Nat} {z z' : Nat → Nat} (h : RZ a v q c l t z) (h10 : z 10 ≤ 16) (hz : ∀ j, j < 234 → z' j = z j) : RZ a v q c l t z' := by
  obtain ⟨hA, hV, hQ, hC, hL, hT⟩ := h
  refine ⟨fun j hj => ?_, fun j hj => ?_, fun p x hp hx => ?_, fun j hj => ?_, fun j x h1 h2 h3 => ?_, by rw [hz 25 (by omega)]; exact hT⟩
  · have := mu_lt hj
    rw [hz _ (by omega)]
    exact hA j hj
  · rw [hz _ (by omega)]
    exact hV j hj
  · rw [hz 10 (by omega)] at hp
    rw [hz _ (by omega)]
    exact hQ p x hp hx
  · rw [hz _ (by omega)]
    exact hC j hj
  · rw [hz 12 (by omega)] at h2 ⊢
    rw [hz _ (by omega)]
    exact hL j x h1 h2 h3
/-- a state of the class, as six parts, and the reference's array -/
def SS (B : Nat) (S : T6) (z : Nat → Nat) : Prop := ∃ a v q c l t, S = (fI a, fI v, fI q, fI c, fI l, nI t) ∧ RZ a v q c l t z ∧ (∀ j, q j < 4294967296) ∧ ZI 99999 B 0 0 0 z ∧ ZN z
theorem ZI.w10 {T B : Nat} {z : Nat → Nat} (h : ZI T B 0 0 0 z) : z 10 ≤ 16 := by
  obtain ⟨h1, ⟨s1, s2, s3, s4, s5, s6, s7, s8⟩, ⟨c1, c2, c3, -⟩, -⟩ := h
  omega
theorem SS.agree {B : Nat} {S : T6} {z z' : Nat → Nat} (h : SS B S z) (hz : ∀ j, j < 234 → z' j = z j) (hb : ∀ k, z' k < 4294967296) : SS B S z' := by
  obtain ⟨a, v, q, c, l, t, e, r, hq, hI, hN⟩ := h
  refine ⟨a, v, q, c, l, t, e, r.agree hI.w10 hz, hq, hI.cut hz hb, ?_⟩
  intro g
  rw [hz 0 (by omega)] at g
  rw [hz 15 (by omega), hz 16 (by omega)]
  exact hN g
theorem SS.mono {B B' : Nat} {S : T6} {z : Nat → Nat} (h : SS B S z) (hB : B ≤ B') : SS B' S z := by
  obtain ⟨a, v, q, c, l, t, e, r, hq, hI, hN⟩ := h
  exact ⟨a, v, q, c, l, t, e, r, hq, hI.mono (Nat.le_refl _) hB (Nat.le_refl _) (Nat.le_refl _), hN⟩
theorem SS.copied {B : Nat} {S : T6} {z z' : Nat → Nat} (h : SS B S z) (X : T6) (hz : ∀ j, j < 234 → z' j = z j) (hb : ∀ k, z' k < 4294967296) : ∃ Y : T6, fX2_copyFrom X.1 X.2.1 X.2.2.1 X.2.2.2.1 X.2.2.2.2.1 X.2.2.2.2.2 S.1 S.2.1 S.2.2.1 S.2.2.2.1 S.2.2.2.2.1 S.2.2.2.2.2 = some Y ∧ SS B Y z' := by
  obtain ⟨a, v, q, c, l, t, rfl, r, hq, hI, hN⟩ := h
  obtain ⟨tnu, tva, tqu, tsc, tlo, twt⟩ := X
  obtain ⟨ta, rfl, ha⟩ := fI_of tnu
  obtain ⟨tv, rfl, hv⟩ := fI_of tva
  obtain ⟨tq, rfl, hq2⟩ := fI_of tqu
  obtain ⟨tc, rfl, hc⟩ := fI_of tsc
  obtain ⟨tl, rfl, hl⟩ := fI_of tlo
  refine ⟨_, copy_ev a v q c l ta tv tq tc tl twt (nI t), _, _, _, _, _, _, rfl, r.cut hI.w10 hz ta tv tq tc tl, cut_lt hq hq2, hI.cut hz hb, ?_⟩
  intro g
  rw [hz 0 (by omega)] at g
  rw [hz 15 (by omega), hz 16 (by omega)]
  exact hN g
