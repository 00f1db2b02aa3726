/-! ===== what is kept: the reference's past, the class's ring ===== -/
theorem RZ.agree {a v q c l : Nat → Nat} {t : Nat} {z z' : Nat → Nat} (h : RZ a v q c l t z) (h10 : z 10 ≤ 16) (hz : ∀ j, j < 234 → z' j = z j) : RZ a v q c l t z' := by
  obtain ⟨hA, hV, hQ, hC, hL, hT⟩ := h
  refine ⟨fun j hj => ?_, fun j hj => ?_, fun p x hp hx => ?_, fun j hj => ?_, fun j x h1 h2 h3 => ?_, by rw [hz 25 (by omega)]; exact hT⟩
  · have := mu_lt hj
    rw [hz _ (by omega)]
    exact hA j hj
  · rw [hz _ (by omega)]
    exact hV j hj
  · rw [hz 10 (by omega)] at hp
    rw [hz _ (by omega)]
    exact hQ p x hp hx
  · rw [hz _ (by omega)]
    exact hC j hj
  · rw [hz 12 (by omega)] at h2 ⊢
    rw [hz _ (by omega)]
    exact hL j x h1 h2 h3
/-- a state of the class, as six parts, and the reference's array -/
def SS (B : Nat) (S : T6) (z : Nat → Nat) : Prop := ∃ a v q c l t, S = (fI a, fI v, fI q, fI c, fI l, nI t) ∧ RZ a v q c l t z ∧ (∀ j, q j < 4294967296) ∧ ZI 99999 B 0 0 0 z ∧ ZN z
theorem ZI.w10 {T B : Nat} {z : Nat → Nat} (h : ZI T B 0 0 0 z) : z 10 ≤ 16 := by
  obtain ⟨h1, ⟨s1, s2, s3, s4, s5, s6, s7, s8⟩, ⟨c1, c2, c3, -⟩, -⟩ := h
  omega
theorem SS.agree {B : Nat} {S : T6} {z z' : Nat → Nat} (h : SS B S z) (hz : ∀ j, j < 234 → z' j = z j) (hb : ∀ k, z' k < 4294967296) : SS B S z' := by
  obtain ⟨a, v, q, c, l, t, e, r, hq, hI, hN⟩ := h
  refine ⟨a, v, q, c, l, t, e, r.agree hI.w10 hz, hq, hI.cut hz hb, ?_⟩
  intro g
  rw [hz 0 (by omega)] at g
  rw [hz 15 (by omega), hz 16 (by omega)]
  exact hN g
theorem SS.mono {B B' : Nat} {S : T6} {z : Nat → Nat} (h : SS B S z) (hB : B ≤ B') : SS B' S z := by
  obtain ⟨a, v, q, c, l, t, e, r, hq, hI, hN⟩ := h
  exact ⟨a, v, q, c, l, t, e, r, hq, hI.mono (Nat.le_refl _) hB (Nat.le_refl _) (Nat.le_refl _), hN⟩
theorem SS.copied {B : Nat} {S : T6} {z z' : Nat → Nat} (h : SS B S z) (X : T6) (hz : ∀ j, j < 234 → z' j = z j) (hb : ∀ k, z' k < 4294967296) : ∃ Y : T6, fX2_copyFrom X.1 X.2.1 X.2.2.1 X.2.2.2.1 X.2.2.2.2.1 X.2.2.2.2.2 S.1 S.2.1 S.2.2.1 S.2.2.2.1 S.2.2.2.2.1 S.2.2.2.2.2 = some Y ∧ SS B Y z' := by
  obtain ⟨a, v, q, c, l, t, rfl, r, hq, hI, hN⟩ := h
  obtain ⟨tnu, tva, tqu, tsc, tlo, twt⟩ := X
  obtain ⟨ta, rfl, ha⟩ := fI_of tnu
  obtain ⟨tv, rfl, hv⟩ := fI_of tva
  obtain ⟨tq, rfl, hq2⟩ := fI_of tqu
  obtain ⟨tc, rfl, hc⟩ := fI_of tsc
  obtain ⟨tl, rfl, hl⟩ := fI_of tlo
  refine ⟨_, copy_ev a v q c l ta tv tq tc tl twt (nI t), _, _, _, _, _, _, rfl, r.cut hI.w10 hz ta tv tq tc tl, cut_lt hq hq2, hI.cut hz hb, ?_⟩
  intro g
  rw [hz 0 (by omega)] at g
  rw [hz 15 (by omega), hz 16 (by omega)]
  exact hN g
def slc (P : Nat → Nat) (i : Nat) : Nat → Nat := fun j => P (234 * i + j)
theorem rec50_z (z P : Nat → Nat) (k : Nat) (hk : k ≤ 5) : fX5_records_50 (fI z) (fI P) (nI k) = some (fI (fun j => if 234 * k ≤ j ∧ j < 234 * k + 234 then z (0 + (j - 234 * k)) else P j), nI (k + 1)) := by
  unfold fX5_records_50
  rw [show (234 : Int32) * nI k = nI (234 * k) by rw [show (234 : Int32) = nI 234 by decide, pk_mul], li_0, lays_z z P 234 1404 0 (234 * k) (by omega) (by omega) (by omega) (by omega), ob1_ev, nm_ev, nI_1]
theorem rec11_loop (z P : Nat → Nat) (kept : Int32) : ∀ (f i : Nat) (Y : Nat → Nat), i ≤ 1170 → 1170 < f + i → (∀ j, Y j = if j < i then P (j + 234) else P j) → fX5_records_11 f (fI z) (fI Y) kept (nI i) = fX5_records_50 (fI z) (fI fun j => if j < 1170 then P (j + 234) else P j) (kept - 1) := by
  intro f
  induction f with
  | zero => intro i Y g1 g2; omega
  | succ f ih =>
    intro i Y g1 g2 hY
    show fX5_records_11_b (fX5_records_11 f) (fI z) (fI Y) kept (nI i) = _
    unfold fX5_records_11_b
    rw [show (1170 : Int32) = nI 1170 by decide, show (234 : Int32) = nI 234 by decide]
    by_cases e : i = 1170
    · subst e
      rw [if_pos (by decide), nm_ev]
      refine congrArg (fun p => fX5_records_50 (fI z) (fI p) (kept - 1)) (funext fun j => ?_)
      exact hY j
    · rw [if_neg (fun g => by have := (nI_le31 (by omega) (by omega)).1 g; omega), nI_add, chk_nI (by omega) (by omega), chk_nI (by omega) (by omega), nm_ev, nm_ev, fI_ap, upd_fI, nI_1]
      refine ih (i + 1) _ (by omega) (by omega) fun j => ?_
      by_cases ej : j = i
      · subst ej
        rw [uN_s, hY, if_neg (by omega), if_pos (by omega)]
      · rw [uN_n ej, hY]
        by_cases g : j < i
        · rw [if_pos g, if_pos (by omega)]
        · rw [if_neg g, if_neg (by omega)]
theorem records_z (z P : Nat → Nat) (k : Nat) (hk : k ≤ 6) (hz : ∀ j, z j < 4294967296) (hP : ∀ j, P j < 4294967296) : ∃ P', fX5_records (fI z) (fI P) (nI k) = some (fI P', nI (if k = 6 then 6 else k + 1)) ∧ (∀ j, P' j < 4294967296) ∧ (k < 6 → (∀ i, i < k → ∀ j, j < 234 → slc P' i j = slc P i j) ∧ ∀ j, j < 234 → slc P' k j = z j) ∧ (k = 6 → (∀ i, i < 5 → ∀ j, j < 234 → slc P' i j = slc P (i + 1) j) ∧ ∀ j, j < 234 → slc P' 5 j = z j) := by
  unfold fX5_records
  by_cases e : k = 6
  · subst e
    rw [if_pos (by decide), show (0 : Int32) = nI 0 from rfl, rec11_loop z P (nI 6) KF 0 P (by omega) (by rw [KF_eq]; omega) (fun j => by rw [if_neg (by omega)]), show nI 6 - 1 = nI 5 by decide, rec50_z _ _ 5 (by omega)]
    refine ⟨_, rfl, fun j => ?_, fun g => by omega, fun _ => ⟨fun i hi j hj => ?_, fun j hj => ?_⟩⟩
    · try dsimp only
      split
      · exact hz _
      · split
        · exact hP _
        · exact hP _
    · unfold slc
      try dsimp only
      rw [if_neg (by omega), if_pos (by omega)]
      congr 1
      omega
    · unfold slc
      try dsimp only
      rw [if_pos (by omega), show 0 + (234 * 5 + j - 234 * 5) = j by omega]
  · rw [if_neg (show ¬ nI k = 6 from fun g => e ((nI_eq32 (a := k) (b := 6) (by omega) (by omega)).1 g)), if_neg e, rec50_z _ _ k (by omega)]
    refine ⟨_, rfl, fun j => ?_, fun _ => ⟨fun i hi j hj => ?_, fun j hj => ?_⟩, fun g => absurd g e⟩
    · try dsimp only
      split
      · exact hz _
      · exact hP _
    · unfold slc
      try dsimp only
      have : 234 * i + 234 ≤ 234 * k := by omega
      rw [if_neg (by omega)]
    · unfold slc
      try dsimp only
      rw [if_pos (by omega), show 0 + (234 * k + j - 234 * k) = j by omega]
/-- the ring of the class against the reference's past -/
def HR (B : Nat) (ring : Nat → Option T6) (h k : Nat) (P : Nat → Nat) : Prop := h < 7 ∧ k ≤ 6 ∧ (∀ j, P j < 4294967296) ∧ ∀ i, i < k → ∃ S, ring ((h + i) % 7) = some S ∧ SS B S (slc P i)
theorem slc_lt {P : Nat → Nat} (h : ∀ j, P j < 4294967296) (i : Nat) : ∀ j, slc P i j < 4294967296 := fun j => h _
theorem HR.mono {B B' : Nat} {ring : Nat → Option T6} {h k : Nat} {P : Nat → Nat} (H : HR B ring h k P) (hB : B ≤ B') : HR B' ring h k P :=
  ⟨H.1, H.2.1, H.2.2.1, fun i hi => by obtain ⟨S, e, g⟩ := H.2.2.2 i hi; exact ⟨S, e, g.mono hB⟩⟩
/-- a change that is refused leaves the ring's counted part -/
theorem HR.prep {B : Nat} {ring ring' : Nat → Option T6} {h k : Nat} {P : Nat → Nat} (H : HR B ring h k P) (hr : ∀ i, i < 7 → i ≠ (h + k) % 7 → ring' i = ring i) : HR B ring' h k P := by
  obtain ⟨h1, h2, h3, h4⟩ := H
  refine ⟨h1, h2, h3, fun i hi => ?_⟩
  rw [hr _ (Nat.mod_lt _ (by omega)) (by omega)]
  exact h4 i hi
theorem HR.done {B : Nat} {ring ring' : Nat → Option T6} {h k : Nat} {P P' z : Nat → Nat} {S : T6} (H : HR B ring h k P) (hr : ∀ i, i < 7 → i ≠ (h + k) % 7 → ring' i = ring i) (hS : ring' ((h + k) % 7) = some S) (hz : SS B S z) (hP' : ∀ j, P' j < 4294967296) (p1 : k < 6 → (∀ i, i < k → ∀ j, j < 234 → slc P' i j = slc P i j) ∧ ∀ j, j < 234 → slc P' k j = z j) (p2 : k = 6 → (∀ i, i < 5 → ∀ j, j < 234 → slc P' i j = slc P (i + 1) j) ∧ ∀ j, j < 234 → slc P' 5 j = z j) : HR B ring' (if k = 6 then (h + 1) % 7 else h) (if k = 6 then 6 else k + 1) P' := by
  obtain ⟨h1, h2, h3, h4⟩ := H
  by_cases e : k = 6
  · rw [if_pos e, if_pos e]
    obtain ⟨q1, q2⟩ := p2 e
    refine ⟨by omega, by omega, hP', fun i hi => ?_⟩
    by_cases ei : i = 5
    · subst ei
      refine ⟨S, ?_, hz.agree q2 (slc_lt hP' 5)⟩
      rw [← hS]
      congr 1
      omega
    · obtain ⟨S2, e2, g2⟩ := h4 (i + 1) (by omega)
      refine ⟨S2, ?_, g2.agree (q1 i (by omega)) (slc_lt hP' i)⟩
      rw [← e2, show ((h + 1) % 7 + i) % 7 = (h + (i + 1)) % 7 by omega]
      exact hr _ (by omega) (by omega)
  · rw [if_neg e, if_neg e]
    obtain ⟨q1, q2⟩ := p1 (by omega)
    refine ⟨h1, by omega, hP', fun i hi => ?_⟩
    by_cases ei : i = k
    · subst ei
      exact ⟨S, hS, hz.agree q2 (slc_lt hP' i)⟩
    · obtain ⟨S2, e2, g2⟩ := h4 i (by omega)
      refine ⟨S2, ?_, g2.agree (q1 i (by omega)) (slc_lt hP' i)⟩
      rw [← e2]
      exact hr _ (by omega) (by omega)
