/-! ===== ticks: the reference's, one by one; the class's, in steps ===== -/
theorem ZI.mono {T T' B B' e1 e2 e1' e2' d : Nat} {z : Nat → Nat} (h : ZI T B e1 e2 d z) (hT : T ≤ T') (hB : B ≤ B') (h1 : e1 ≤ e1') (h2 : e2 ≤ e2') : ZI T' B' e1' e2' d z := by
  obtain ⟨g1, g2, ⟨c1, c2, c3, c4, c5, c6, c7, c8, c9, c10⟩, g4, g5, ⟨d1, d2, d3, d4, d5, d6⟩⟩ := h
  exact ⟨g1, g2, ⟨c1, by omega, c3, by omega, c5, c6, c7, c8, c9, c10⟩, g4, g5, ⟨d1, by omega, by omega, by omega, d5, d6⟩⟩
/-- what happens in a tick, ahead of its end -/
def zgo (z : Nat → Nat) : Nat → Nat := if (if z 18 = z 0 then zcome z else z) 19 = (if z 18 = z 0 then zcome z else z) 0 then zout (if z 18 = z 0 then zcome z else z) else (if z 18 = z 0 then zcome z else z)
theorem ztick_go (z : Nat → Nat) : ztick z = zend2 (zgo z) := by
  unfold ztick ztick2 zgo
  by_cases h : z 18 = z 0
  · rw [if_pos h, if_pos h]
    split <;> rfl
  · rw [if_neg h, if_neg h]
    split <;> rfl
theorem ZI.go {T B : Nat} {z : Nat → Nat} (h : ZI T B 0 0 0 z) (hT : T ≤ 150000) (hB : 200000 ≤ B) : ZI T B 1 1 0 (zgo z) ∧ zgo z 0 = z 0 ∧ z 0 < zgo z 18 ∧ z 0 < zgo z 19 := by
  have hs := h.2.1
  obtain ⟨s1, s2, s3, s4, s5, s6, s7, s8, s9, s10, s11, s12⟩ := hs
  have hd := h.2.2.2.2.2
  obtain ⟨d1, d2, d3, d4, d5, d6⟩ := hd
  unfold zgo
  by_cases h18 : z 18 = z 0
  · obtain ⟨g1, g2, g3, g4, -⟩ := h.come h18 hT hB
    rw [if_pos h18]
    by_cases h19 : zcome z 19 = zcome z 0
    · rw [if_pos h19]
      obtain ⟨o1, o2, o3, o4⟩ := g1.out h19 hT hB (by omega)
      have hs2 := g1.2.1
      obtain ⟨t1, t2, t3, t4, -⟩ := hs2
      exact ⟨o1, by omega, by omega, by omega⟩
    · rw [if_neg h19]
      exact ⟨g1.mono (Nat.le_refl _) (Nat.le_refl _) (by omega) (by omega), g2, by omega, by omega⟩
  · rw [if_neg h18]
    by_cases h19 : z 19 = z 0
    · rw [if_pos h19]
      obtain ⟨o1, o2, o3, o4⟩ := h.out h19 hT hB (by omega)
      exact ⟨o1.mono (Nat.le_refl _) (Nat.le_refl _) (by omega) (by omega), o2, by omega, by omega⟩
    · rw [if_neg h19]
      exact ⟨h.mono (Nat.le_refl _) (Nat.le_refl _) (by omega) (by omega), rfl, by omega, by omega⟩
theorem ZI.tick {T B : Nat} {z : Nat → Nat} (h : ZI T B 0 0 0 z) (hT : T ≤ 150000) (hB : 200000 ≤ B) : ZI (T + 1) B 0 0 0 (ztick z) := by
  obtain ⟨g1, g2, g3, g4⟩ := h.go hT hB
  rw [ztick_go]
  exact g1.end2 (by omega) (by omega) (by omega) (by omega) hT
theorem ticks_z {T B : Nat} {z : Nat → Nat} (h : ZI T B 0 0 0 z) (hT : T ≤ 150000) (hB : 200000 ≤ B) : fX5_ticks (fI z) = some (fI (ztick z)) := by
  unfold fX5_ticks ztick
  have h1 := h.1 18
  have h2 := h.1 0
  rw [fI_ap, fI_ap]
  by_cases h18 : z 18 = z 0
  · obtain ⟨g1, g2, g3, g4, gK⟩ := h.come h18 hT hB
    rw [if_pos (by rw [h18]), if_pos h18, comes_zK z gK, ob1_ev, tick14_z _ g1.1 (fun _ => g1.KQ hT (by omega) (by omega))]
  · rw [if_neg (by rw [nI_eq32 h1 h2]; exact h18), if_neg h18, tick14_z _ h.1 (fun _ => h.KQ hT (by omega) (by omega))]
def zpass (z : Nat → Nat) : Nat → (Nat → Nat)
  | 0 => z
  | n + 1 => zpass (ztick z) n
theorem ZI.pass {B : Nat} (hB : 200000 ≤ B) : ∀ (n T : Nat) (z : Nat → Nat), ZI T B 0 0 0 z → T + n ≤ 150001 → ZI (T + n) B 0 0 0 (zpass z n) := by
  intro n
  induction n with
  | zero => intro T z h _; exact h
  | succ n ih =>
    intro T z h hn
    have := ih (T + 1) _ (h.tick (by omega) hB) (by omega)
    rw [show T + 1 + n = T + (n + 1) by omega] at this
    exact this
theorem passes_loop {B : Nat} (hB : 200000 ≤ B) (X : Nat) (hX : X < 2147483648) : ∀ (f m T : Nat) (z : Nat → Nat), ZI T B 0 0 0 z → T + m ≤ 150001 → m ≤ X → m < f → fX5_passes_2 f (fI z) (nI X) (nI (X - m)) = some (fI (zpass z m)) := by
  intro f
  induction f with
  | zero => intro m T z _ _ _ h; omega
  | succ f ih =>
    intro m T z h hm hX2 hf
    show fX5_passes_2_b (fX5_passes_2 f) (fI z) (nI X) (nI (X - m)) = _
    unfold fX5_passes_2_b
    cases m with
    | zero => rw [if_pos (by rw [nI_le31 (by omega) (by omega)]; omega)]; rfl
    | succ m =>
      rw [if_neg (by rw [nI_le31 (by omega) (by omega)]; omega), ticks_z h (by omega) hB, ob1_ev, nm_ev, li_1, nI_add, show X - (m + 1) + 1 = X - m by omega]
      exact ih m (T + 1) _ (h.tick (by omega) hB) (by omega) (by omega) (by omega)
theorem passes_z {T B : Nat} (hB : 200000 ≤ B) (m : Nat) (z : Nat → Nat) (h : ZI T B 0 0 0 z) (hm : T + m ≤ 150001) (hm2 : m ≤ 4000) : fX5_passes (fI z) (nI m) = some (fI (zpass z m)) := by
  unfold fX5_passes
  have := passes_loop hB m (by omega) KF m T z h hm (Nat.le_refl _) (by rw [KF_eq]; omega)
  rw [Nat.sub_self] at this
  exact this
/-! a quiet stretch -/
def zquiet (z : Nat → Nat) (n : Nat) : Nat → Nat := uN (uN z 0 (z 0 + n)) 25 (z 25 + n * z 10)
theorem zpass_quiet : ∀ (n : Nat) (z : Nat → Nat), z 0 + n ≤ z 18 → z 0 + n ≤ z 19 → zpass z n = zquiet z n := by
  intro n
  induction n with
  | zero =>
    intro z _ _
    funext j
    simp only [zpass, zquiet, uN]
    repeat' split
    all_goals first | rfl | (subst_vars; omega)
  | succ n ih =>
    intro z h1 h2
    have ht : ztick z = zend2 z := by
      unfold ztick ztick2
      rw [if_neg (by omega), if_neg (by omega)]
    show zpass (ztick z) n = _
    rw [ht]
    have lo : ∀ j, j ≠ 0 → j ≠ 25 → zend2 z j = z j := fun j g1 g2 => by unfold zend2; rw [uN_n g2, uN_n g1]
    have a0 : zend2 z 0 = z 0 + 1 := by unfold zend2; rw [uN_n (by omega), uN_s]
    have a25 : zend2 z 25 = z 25 + z 10 := by unfold zend2; rw [uN_s]
    rw [ih _ (by rw [a0, lo 18 (by omega) (by omega)]; omega) (by rw [a0, lo 19 (by omega) (by omega)]; omega)]
    funext j
    unfold zquiet
    rw [a0, a25, lo 10 (by omega) (by omega), Nat.succ_mul]
    simp only [uN, zend2]
    repeat' split
    all_goals first | rfl | omega
/-- a step: what happens in the tick, then so many ticks at once -/
theorem zpass_step (z : Nat → Nat) (n : Nat) (h1 : 1 ≤ n) (h18 : z 0 + n ≤ zgo z 18) (h19 : z 0 + n ≤ zgo z 19) (h0 : zgo z 0 = z 0) : zpass z n = zquiet (zgo z) n := by
  obtain ⟨m, rfl⟩ : ∃ m, n = m + 1 := ⟨n - 1, by omega⟩
  show zpass (ztick z) m = _
  rw [ztick_go]
  have lo : ∀ j, j ≠ 0 → j ≠ 25 → zend2 (zgo z) j = zgo z j := fun j g1 g2 => by unfold zend2; rw [uN_n g2, uN_n g1]
  have a0 : zend2 (zgo z) 0 = zgo z 0 + 1 := by unfold zend2; rw [uN_n (by omega), uN_s]
  have a25 : zend2 (zgo z) 25 = zgo z 25 + zgo z 10 := by unfold zend2; rw [uN_s]
  rw [zpass_quiet m _ (by rw [a0, lo 18 (by omega) (by omega)]; omega) (by rw [a0, lo 19 (by omega) (by omega)]; omega)]
  funext j
  unfold zquiet
  rw [a0, a25, lo 10 (by omega) (by omega), Nat.succ_mul]
  simp only [uN, zend2]
  repeat' split
  all_goals first | rfl | omega
theorem zpass_add (m : Nat) : ∀ (n : Nat) (z : Nat → Nat), zpass z (n + m) = zpass (zpass z n) m := by
  intro n
  induction n with
  | zero => intro z; rw [Nat.zero_add]; rfl
  | succ n ih =>
    intro z
    rw [show n + 1 + m = (n + m) + 1 by omega]
    exact ih (ztick z)
theorem RZ.quiet {a v q c l : Nat → Nat} {t : Nat} {z : Nat → Nat} (h : RZ a v q c l t z) (n : Nat) : RZ (uN a 0 (a 0 + n)) v q c l (t + n * a 2) (zquiet z n) := by
  obtain ⟨hA, hV, hQ, hC, hL, hT⟩ := h
  have lo : ∀ j, j ≠ 0 → j ≠ 25 → zquiet z n j = z j := fun j g1 g2 => by unfold zquiet; rw [uN_n g2, uN_n g1]
  have e0 : a 0 = z 0 := hA 0 (by omega)
  have e2 : a 2 = z 10 := hA 2 (by omega)
  refine ⟨?_, hV.ext fun j g1 g2 => lo j (by omega) (by omega), ?_, hC.ext fun j g1 g2 => lo j (by omega) (by omega), hL.ext (lo 12 (by omega) (by omega)) fun j g1 => lo j (by omega) (by omega), ?_⟩
  · rw [e0]
    refine (hA.up 0 (z 0 + n) (by omega) (m := 0) rfl).ext fun j hj => ?_
    unfold zquiet
    rw [uN_n (by omega)]
  · intro p x hp hx
    rw [lo 10 (by omega) (by omega)] at hp
    rw [lo _ (by omega) (by omega)]
    exact hQ p x hp hx
  · unfold zquiet
    rw [uN_s, hT, e2]
