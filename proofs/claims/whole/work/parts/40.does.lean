/-! ===== an order, both sides ===== -/
theorem RZ.value {a v q c l : Nat → Nat} {t : Nat} {z : Nat → Nat} (h : RZ a v q c l t z) (k y : Nat) (hk : k < 16) : RZ a (uN v k y) q c l t (uN z (26 + k) y) := by
  obtain ⟨hA, hV, hQ, hC, hL, hT⟩ := h
  have lo : ∀ j, j < 26 ∨ 42 ≤ j → uN z (26 + k) y j = z j := fun j hj => uN_n (by omega)
  refine ⟨hA.ext fun j hj => lo j (by omega), fun j hj => ?_, fun p x hp hx => ?_, hC.ext fun j g1 g2 => lo j (by omega), hL.ext (lo 12 (by omega)) fun j g => lo j (by omega), hT.trans (lo 25 (by omega)).symm⟩
  · by_cases e : j = k
    · subst e
      rw [uN_s, uN_s]
    · rw [uN_n e, uN_n (by omega)]
      exact hV j hj
  · rw [lo 10 (by omega)] at hp
    rw [lo _ (by omega)]
    exact hQ p x hp hx
theorem ZI.value {T B : Nat} {z : Nat → Nat} (h : ZI T B 0 0 0 z) (k y : Nat) (hk : k < 16) (hy : y ≤ 255) : ZI T B 0 0 0 (uN z (26 + k) y) := by
  obtain ⟨h1, h2, ⟨c1, c2, c3, c4, c5, c6, c7, c8, c9, c10⟩, h4, h5, ⟨d1, d2, d3, d4, d5, d6⟩⟩ := h
  have lo : ∀ j, j < 26 ∨ 42 ≤ j → uN z (26 + k) y j = z j := fun j hj => uN_n (by omega)
  refine ⟨lt_uN h1 _ _ (by omega), ?_, ⟨?_, ?_, ?_, ?_, ?_, ?_, ?_, ?_, ?_, ?_⟩, fun j hj => ?_, fun p hp => ?_, ⟨?_, ?_, ?_, ?_, ?_, ?_⟩⟩
  · unfold ZS at h2 ⊢
    simp (disch := omega) only [lo]
    exact h2
  all_goals try simp (disch := omega) only [lo]
  all_goals first | omega | skip
  · by_cases e : j = k
    · subst e
      rw [uN_s]
      exact hy
    · rw [uN_n (by omega)]
      exact h4 j hj
  · rw [lo 10 (by omega)] at hp
    exact h5 p hp
theorem RZ.slip {a v q c l : Nat → Nat} {t : Nat} {z : Nat → Nat} (h : RZ a v q c l t z) (k x : Nat) (hk : k < 2) : RZ (uN a (10 + k) x) v q c l t (uN z (18 + k) x) := by
  obtain ⟨hA, hV, hQ, hC, hL, hT⟩ := h
  have hi : ∀ j, j < 18 ∨ 20 ≤ j → uN z (18 + k) x j = z j := fun j hj => uN_n (by omega)
  refine ⟨hA.up (10 + k) x (by omega) (by unfold mu; rw [if_neg (by omega), if_pos (by omega)]; omega), hV.ext fun j g1 g2 => hi j (by omega), fun p y hp hy => ?_, hC.ext fun j g1 g2 => hi j (by omega), hL.ext (hi 12 (by omega)) fun j g => hi j (by omega), hT.trans (hi 25 (by omega)).symm⟩
  rw [hi 10 (by omega)] at hp
  rw [hi _ (by omega)]
  exact hQ p y hp hy
theorem ZI.slip {T B : Nat} {z : Nat → Nat} (h : ZI T B 0 0 0 z) (k x : Nat) (hk : k < 2) (hx : x ≤ 99) (hB2 : B < 2000000000) : ZI T (B + 99) 0 0 0 (uN z (18 + k) (z (18 + k) + x)) := by
  obtain ⟨h1, h2, ⟨c1, c2, c3, c4, c5, c6, c7, c8, c9, c10⟩, h4, h5, ⟨d1, d2, d3, d4, d5, d6⟩⟩ := h
  have lo : ∀ j, j < 18 ∨ 20 ≤ j → uN z (18 + k) (z (18 + k) + x) j = z j := fun j hj => uN_n (by omega)
  have hb : z (18 + k) ≤ B ∧ z 0 ≤ z (18 + k) := by
    rcases (show k = 0 ∨ k = 1 by omega) with rfl | rfl
    · exact ⟨d3, d5⟩
    · exact ⟨d4, d6⟩
  have n18 : uN z (18 + k) (z (18 + k) + x) 18 ≤ B + 99 ∧ z 0 ≤ uN z (18 + k) (z (18 + k) + x) 18 := by
    unfold uN
    split <;> omega
  have n19 : uN z (18 + k) (z (18 + k) + x) 19 ≤ B + 99 ∧ z 0 ≤ uN z (18 + k) (z (18 + k) + x) 19 := by
    unfold uN
    split <;> omega
  refine ⟨lt_uN h1 _ _ (by omega), ?_, ⟨?_, ?_, ?_, ?_, ?_, ?_, ?_, ?_, ?_, ?_⟩, fun j hj => ?_, fun p hp => ?_, ⟨?_, ?_, ?_, ?_, ?_, ?_⟩⟩
  · unfold ZS at h2 ⊢
    simp (disch := omega) only [lo]
    exact h2
  all_goals try simp (disch := omega) only [lo]
  all_goals first | omega | exact h4 _ hj | skip
  rw [lo 10 (by omega)] at hp
  exact h5 p hp
theorem n1z : ¬ (1 : Int32) = nI 0 := by decide
theorem set01_c (a : Nat → Nat) (s v : Nat) (hs : s < 2) (hv : v < 1000000) : fX2_changeSetting (fI a) (nI s) (nI v) = if loS s ≤ v ∧ v ≤ hiS s then some (nI (a (16 + s)), fI (uN a (16 + s) v)) else some (-2, fI a) := by
  unfold fX2_changeSetting
  have hl := loS_hiS s
  rw [li_0, li_7, within_n s 0 7 (by omega) (by omega) (by omega), ob1_ev, if_neg n1z, chk_nI (by omega) (by omega), chk_nI (by omega) (by omega), sfL_ev s (by omega), sfM_ev s (by omega)]
  rcases in_nI (nI v) (loS s) (hiS s) hl.1 (by omega) with h2 | ⟨y, hy, v1, v2, h2⟩
  · rw [h2, ob1_ev, if_pos li_0]
    by_cases g : loS s ≤ v ∧ v ≤ hiS s
    · rw [within_n _ _ _ g.1 g.2 (by omega)] at h2
      cases h2
    · rw [if_neg g]
  · have hy := (nI_eq32 (by omega) (by omega)).1 hy
    rw [h2, ob1_ev, if_neg n1z, if_neg (fun e => by have := (nI_eq32 (a := s) (b := 3) (by omega) (by omega)).1 e; omega), if_neg (fun e => by have := (nI_eq32 (a := s) (b := 2) (by omega) (by omega)).1 e; omega), set62_c a s v (by omega), if_pos (by omega)]
theorem hI105 : ¬ (nI 105 = 60) ∧ ¬ (nI 105 = 62) := by decide
theorem isFor01 (s v : Nat) (hs : s < 2) (hv : v < 1000000) : fX5_isFor (nI s) (nI v) = if loS s ≤ v ∧ v ≤ hiS s then some 1 else some 0 := by
  have hl := loS_hiS s
  rw [isFor_ev s (by omega)]
  by_cases g : loS s ≤ v ∧ v ≤ hiS s
  · rw [if_pos g, within_n _ _ _ g.1 g.2 (by omega)]
  · rw [if_neg g]
    by_cases g2 : v < loS s
    · exact within_lo ((nI_lt31 (by omega) (by omega)).2 g2)
    · exact within_hi ((nI_lt31 (by omega) (by omega)).2 (by omega))
/-- the words of an order that the reference keeps -/
def kept3 (ords : Nat → Int32) (m o f s : Nat) : Prop := ords (3 * m) = nI o ∧ ords (3 * m + 1) = nI f ∧ (o = 118 → ords (3 * m + 2) = nI s)
theorem does_ev (now ords : Nat → Int32) (m : Nat) (hm : 3 * m + 2 < 123) : fX5_does now ords (nI m) = ob1 (fX5_mayDo now (ords (3 * m)) (ords (3 * m + 1)) (ords (3 * m + 2))) fun r_7 =>
  (if r_7 = 0 then
  (if ords (3 * m) = 105 then
  (if ords (3 * m) = 105 then
  ob2 (fX5_changes now ((1 : Int32) + 0) (ords (3 * m + 1))) fun r_12 now_13 =>
  some (1, now_13)
  else
  ob2 (fX5_changes now ((1 : Int32) + 1) (ords (3 * m + 1))) fun r_9 now_10 =>
  some (1, now_10))
  else
  (if ords (3 * m) = 111 then
  (if ords (3 * m) = 105 then
  ob2 (fX5_changes now ((1 : Int32) + 0) (ords (3 * m + 1))) fun r_18 now_19 =>
  some (1, now_19)
  else
  ob2 (fX5_changes now ((1 : Int32) + 1) (ords (3 * m + 1))) fun r_15 now_16 =>
  some (1, now_16))
  else
  (if ords (3 * m) = 116 then
  ob1 (fX5_passes now (ords (3 * m + 1))) fun now_21 =>
  some (1, now_21)
  else
  (if ords (3 * m) = 118 then
  ob2 (fX5_changes now (26 + ords (3 * m + 1)) (ords (3 * m + 2))) fun r_23 now_24 =>
  some (1, now_24)
  else
  (if ords (3 * m) = 60 then
  ob2 (fX5_slips now (0 : Int32) (ords (3 * m + 1))) fun r_29 now_30 =>
  some (1, now_30)
  else
  ob2 (fX5_slips now (1 : Int32) (ords (3 * m + 1))) fun r_26 now_27 =>
  some (1, now_27))))))
  else
  some (0, now)) := by
  have e0 : (3 : Int32) * nI m = nI (3 * m) := by rw [li_3, pk_mul]
  have e1 : nI (3 * m) + 1 = nI (3 * m + 1) := nI_1 _
  have e2 : nI (3 * m) + 2 = nI (3 * m + 2) := by rw [li_2, nI_add]
  unfold fX5_does
  rw [e0, e1, e2, chk_nI (by omega) (by omega), nm_ev, chk_nI (by omega) (by omega), nm_ev, chk_nI (by omega) (by omega), nm_ev]
