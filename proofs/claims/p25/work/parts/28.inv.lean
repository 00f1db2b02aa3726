/-! ===== a row goes out: both sides; what stays true of a state ===== -/
theorem out_c (a v q c l : Nat → Nat) (t : Nat) (z : Nat → Nat) (hR : RZ a v q c l t z) (hq : ∀ j, q j < 4294967296) (hK : KQ z) : ∃ a' q' c' l', fX2_rowGoesOut (fI a) (fI q) (fI c) (fI l) = some (fI a', fI q', fI c', fI l') ∧ RZ a' v q' c' l' t (zout z) ∧ ∀ j, q' j < 4294967296 := by
  obtain ⟨hA, hV, hQ, hC, hL, hT⟩ := id hR
  obtain ⟨k1, k2, k3, k4, k5, k6, k7, k8, k9, k11⟩ := id hK
  have e2 : a 2 = z 10 := hA 2 (by omega)
  have e7 : a 7 = z 15 := hA 7 (by omega)
  have e19 : a 19 = z 4 := hA 19 (by omega)
  have e21 : a 21 = z 6 := hA 21 (by omega)
  have k6z := k1 6
  unfold fX2_rowGoesOut zout
  rw [rows_c, ob1_ev, nm_ev, fI_ap, e7, e19]
  have hs := show_c a v q c l t z hR hq hK
  by_cases h15 : z 15 = 0
  · rw [if_pos (by rw [h15]; rfl), set_5, ob1_ev, e21]
    by_cases h6 : z 6 = 1
    · rw [if_pos (by rw [h6]; rfl), if_pos ⟨h6, h15⟩]
      obtain ⟨a', q', l', g1, g2, g3, g4, g5⟩ := skip_loop (z 10) k4 KF (z 10) z a q l hK rfl (Nat.le_refl _) (by rw [KF_eq]; omega) hA hQ hL hq
      have hsk : fX2_skipToPicture (fI a) (fI q) (fI l) = some (fI a', fI q', fI l') := by
        unfold fX2_skipToPicture
        rw [nm_ev, fI_ap, e2]
        rw [Nat.sub_self] at g1
        exact g1
      rw [hsk, ob3_ev]
      have hK2 := KQ.skip (z 10) z hK
      have lo : ∀ j, j < 42 → j ≠ 10 → j ≠ 12 → j ≠ 24 → zskip z (z 10) j = z j := fun j h1 h2 h3 h4 => zskip_lo j h1 h2 h3 h4 _ _
      have hR2 : RZ a' v q' c l' t (zskip z (z 10)) := ⟨g2, hV.ext fun j h1 h2 => lo j h2 (by omega) (by omega) (by omega), g3, hC.ext fun j h1 h2 => zskip_sh j h1 h2 _ _ (by omega), g4, hT.trans (lo 25 (by omega) (by omega) (by omega) (by omega)).symm⟩
      have := show_c a' v q' c l' t (zskip z (z 10)) hR2 g5 hK2
      rw [lo 15 (by omega) (by omega) (by omega) (by omega), lo 4 (by omega) (by omega) (by omega) (by omega)] at this
      exact this
    · rw [if_neg (by rw [li_1, nI_eq32 k6z (by omega)]; exact h6), if_neg (fun h => h6 h.1)]
      exact hs
  · rw [if_neg (by rw [li_0, nI_eq32 (by omega) (by omega)]; exact h15), if_neg (fun h => h15 h.2)]
    exact hs
def ZS (z : Nat → Nat) : Prop := 2 ≤ z 1 ∧ z 1 ≤ 99 ∧ 1 ≤ z 2 ∧ z 2 ≤ 99 ∧ 1 ≤ z 3 ∧ z 3 ≤ 16 ∧ 2 ≤ z 4 ∧ z 4 ≤ 16 ∧ z 5 ≤ 1 ∧ z 6 ≤ 1 ∧ z 7 ≤ 255 ∧ z 8 ≤ 255
/-- counters and places; T bounds the tick, B the ticks to come, d the lines that came and are nowhere yet, e1 and e2 what a tick has counted ahead of its end -/
def ZI (T B e1 e2 d : Nat) (z : Nat → Nat) : Prop := (∀ k, z k < 4294967296) ∧ ZS z ∧ (z 9 = z 10 + z 11 + z 12 + d ∧ z 9 ≤ z 0 + e1 ∧ z 10 ≤ z 3 ∧ z 13 ≤ z 0 + e2 ∧ z 14 ≤ z 13 ∧ z 15 < 2 * z 4 ∧ z 16 < z 4 ∧ z 17 + d ≤ z 9 ∧ z 24 = (if z 12 < 8 then z 12 else 8) ∧ z 20 + z 21 + z 22 ≤ z 13) ∧ (∀ k, k < 16 → z (26 + k) ≤ 255) ∧ (∀ p, p < z 10 → z (42 + 4 * p + 3) ≤ 1) ∧ (z 25 ≤ 17 * z 0 ∧ z 0 ≤ T ∧ z 18 ≤ B ∧ z 19 ≤ B ∧ z 0 ≤ z 18 ∧ z 0 ≤ z 19)
theorem ZI.came {T B e2 : Nat} {z : Nat → Nat} (h : ZI T B 0 e2 0 z) (hT : T ≤ 150000) : ZI T B 1 e2 1 (uN z 9 (z 9 + 1)) := by
  obtain ⟨h1, h2, ⟨c1, c2, c3, c4, c5, c6, c7, c8, c9, c10⟩, h4, h5, ⟨d1, d2, d3, d4, d5, d6⟩⟩ := h
  have lo : ∀ j, j ≠ 9 → uN z 9 (z 9 + 1) j = z j := fun j hj => uN_n hj
  have hi : uN z 9 (z 9 + 1) 9 = z 9 + 1 := uN_s
  refine ⟨lt_uN h1 _ _ (by omega), ?_, ⟨?_, ?_, ?_, ?_, ?_, ?_, ?_, ?_, ?_, ?_⟩, fun k hk => ?_, fun p hp => ?_, ⟨?_, ?_, ?_, ?_, ?_, ?_⟩⟩
  · unfold ZS at h2 ⊢
    simp (disch := omega) only [lo]
    exact h2
  all_goals simp (disch := omega) only [lo, hi]
  all_goals first | omega | exact h4 _ hk | skip
  rw [lo 10 (by omega)] at hp
  exact h5 p hp
theorem ZI.queue {T B e1 e2 : Nat} {z : Nat → Nat} (h : ZI T B e1 e2 1 z) (hr : z 10 < z 3) : ZI T B e1 e2 0 (zqueue z) := by
  obtain ⟨h1, h2, ⟨c1, c2, c3, c4, c5, c6, c7, c8, c9, c10⟩, h4, h5, ⟨d1, d2, d3, d4, d5, d6⟩⟩ := h
  obtain ⟨s1, s2, s3, s4, s5, s6, s7, s8, s9, s10, s11, s12⟩ := id h2
  have lo : ∀ j, j < 42 → j ≠ 10 → zqueue z j = z j := fun j g1 g2 => zqueue_lo z j g1 g2
  have hi : zqueue z 10 = z 10 + 1 := by simp [zqueue]
  refine ⟨fun k => ?_, ?_, ⟨?_, ?_, ?_, ?_, ?_, ?_, ?_, ?_, ?_, ?_⟩, fun k hk => ?_, fun p hp => ?_, ⟨?_, ?_, ?_, ?_, ?_, ?_⟩⟩
  · simp only [zqueue]
    have := h1 10
    repeat' split
    all_goals first | exact h1 _ | omega
  · unfold ZS at h2 ⊢
    simp (disch := omega) only [lo]
    exact h2
  all_goals try simp (disch := omega) only [lo, hi]
  all_goals first | omega | exact h4 _ hk | skip
  rw [hi] at hp
  by_cases e : p = z 10
  · simp only [zqueue]
    rw [if_neg (by omega), if_neg (by omega), if_neg (by omega), if_neg (by omega), if_pos (by omega)]
    omega
  · have g : zqueue z (42 + 4 * p + 3) = z (42 + 4 * p + 3) := by
      simp only [zqueue]
      rw [if_neg (by omega), if_neg (by omega), if_neg (by omega), if_neg (by omega), if_neg (by omega)]
    rw [g]
    exact h5 p (by omega)
theorem zmiss_12 (z : Nat → Nat) (p l w : Nat) : zmiss z p l w 12 = z 12 + 1 := by simp [zmiss, zmissF]
theorem zmiss_24 (z : Nat → Nat) (p l w : Nat) : zmiss z p l w 24 = if z 24 < 8 then z 24 + 1 else z 24 := by simp [zmiss, zmissF]
theorem ZI.miss {T B e1 e2 : Nat} {z : Nat → Nat} (h : ZI T B e1 e2 1 z) (hT : T ≤ 150000) (he : e1 ≤ 1) (p l w : Nat) (hp : p < 4294967296) (hl : l < 4294967296) (hw : w < 4294967296) : ZI T B e1 e2 0 (zmiss z p l w) := by
  obtain ⟨h1, h2, ⟨c1, c2, c3, c4, c5, c6, c7, c8, c9, c10⟩, h4, h5, ⟨d1, d2, d3, d4, d5, d6⟩⟩ := h
  obtain ⟨s1, s2, s3, s4, s5, s6, s7, s8, s9, s10, s11, s12⟩ := id h2
  have lo : ∀ j, j < 202 → j ≠ 12 → j ≠ 24 → zmiss z p l w j = z j := fun j g1 g2 g3 => zmiss_mid z p l w j g1 g2 g3
  have a12 := zmiss_12 z p l w
  have a24 := zmiss_24 z p l w
  refine ⟨zmiss_lt h1 p l w hp hl hw (by omega), ?_, ⟨?_, ?_, ?_, ?_, ?_, ?_, ?_, ?_, ?_, ?_⟩, fun k hk => ?_, fun i hi => ?_, ⟨?_, ?_, ?_, ?_, ?_, ?_⟩⟩
  · unfold ZS at h2 ⊢
    simp (disch := omega) only [lo]
    exact h2
  all_goals try simp (disch := omega) only [lo, a12, a24]
  all_goals first | omega | exact h4 _ hk | skip
  · rw [c9]
    repeat' split
    all_goals omega
  · rw [lo 10 (by omega) (by omega) (by omega)] at hi
    rw [lo _ (by omega) (by omega) (by omega)]
    exact h5 i hi
theorem ZI.lose {T B e1 e2 d : Nat} {z : Nat → Nat} (h : ZI T B e1 e2 d z) (hT : T ≤ 150000) (he : e1 ≤ 1) (p w : Nat) (hp : p < z 10) (hw : w ≤ 2) : ZI T B e1 e2 d (zlose z p w) := by
  obtain ⟨h1, h2, ⟨c1, c2, c3, c4, c5, c6, c7, c8, c9, c10⟩, h4, h5, ⟨d1, d2, d3, d4, d5, d6⟩⟩ := h
  obtain ⟨s1, s2, s3, s4, s5, s6, s7, s8, s9, s10, s11, s12⟩ := id h2
  have lo : ∀ j, j < 42 → j ≠ 10 → j ≠ 12 → j ≠ 24 → zlose z p w j = z j := fun j g1 g2 g3 g4 => zlose_lo z p w j g1 g2 g3 g4
  have a10 := zlose_10 z p w
  have a12 := zlose_12 z p w
  have a24 := zlose_24 z p w
  refine ⟨zlose_lt h1 p w (by omega) (by omega), ?_, ⟨?_, ?_, ?_, ?_, ?_, ?_, ?_, ?_, ?_, ?_⟩, fun k hk => ?_, fun i hi => ?_, ⟨?_, ?_, ?_, ?_, ?_, ?_⟩⟩
  · unfold ZS at h2 ⊢
    simp (disch := omega) only [lo]
    exact h2
  all_goals try simp (disch := omega) only [lo, a10, a12, a24]
  all_goals first | omega | exact h4 _ hk | skip
  · rw [c9]
    repeat' split
    all_goals omega
  · rw [a10] at hi
    rw [zlose_q _ _ _ _ _ (by omega) (by omega) (by omega)]
    split
    · exact h5 (i + 1) (by omega)
    · exact h5 i (by omega)
theorem ZI.adv {T B e1 e2 : Nat} {z : Nat → Nat} (h : ZI T B e1 e2 0 z) (h18 : z 18 = z 0) (h17 : z 17 + 1 ≤ z 9) (hT : T ≤ 150000) (hB : 200000 ≤ B) : ZI T B e1 e2 0 (zadv z) := by
  obtain ⟨h1, h2, ⟨c1, c2, c3, c4, c5, c6, c7, c8, c9, c10⟩, h4, h5, ⟨d1, d2, d3, d4, d5, d6⟩⟩ := h
  obtain ⟨s1, s2, s3, s4, s5, s6, s7, s8, s9, s10, s11, s12⟩ := id h2
  have lo : ∀ j, j ≠ 16 → j ≠ 17 → j ≠ 18 → zadv z j = z j := fun j g1 g2 g3 => zadv_hi z j g1 g2 g3
  have a16 : zadv z 16 < z 4 := by
    unfold zadv
    split <;> simp (disch := omega) only [uN_s, uN_n] <;> omega
  have a17 : zadv z 17 ≤ z 9 := by
    unfold zadv
    split <;> simp (disch := omega) only [uN_s, uN_n] <;> omega
  have a18 : zadv z 18 = z 18 + z 1 := by
    unfold zadv
    split <;> simp (disch := omega) only [uN_s, uN_n]
  refine ⟨?_, ?_, ⟨?_, ?_, ?_, ?_, ?_, ?_, ?_, ?_, ?_, ?_⟩, fun k hk => ?_, fun i hi => ?_, ⟨?_, ?_, ?_, ?_, ?_, ?_⟩⟩
  · have g9 := h1 9
    unfold zadv
    split
    · exact lt_uN (lt_uN h1 _ _ (by omega)) _ _ (by omega)
    · exact lt_uN (lt_uN (lt_uN h1 _ _ (by omega)) _ _ (by omega)) _ _ (by omega)
  · unfold ZS at h2 ⊢
    simp (disch := omega) only [lo]
    exact h2
  all_goals try simp (disch := omega) only [lo, a18]
  all_goals first | omega | exact h4 _ hk | skip
  rw [lo 10 (by omega) (by omega) (by omega)] at hi
  exact h5 i hi
theorem ZI.come {T B : Nat} {z : Nat → Nat} (h : ZI T B 0 0 0 z) (h18 : z 18 = z 0) (hT : T ≤ 150000) (hB : 200000 ≤ B) : ZI T B 1 0 0 (zcome z) ∧ zcome z 0 = z 0 ∧ zcome z 18 = z 18 + z 1 ∧ zcome z 19 = z 19 ∧ KC z := by
  have h' := h
  obtain ⟨h1, h2, ⟨c1, c2, c3, c4, c5, c6, c7, c8, c9, c10⟩, h4, h5, ⟨d1, d2, d3, d4, d5, d6⟩⟩ := h'
  obtain ⟨s1, s2, s3, s4, s5, s6, s7, s8, s9, s10, s11, s12⟩ := id h2
  have hKC : KC z := ⟨h1, s6, s5, c3, by omega, s8, h4, s12, by omega, by rw [c9]; split <;> omega, by omega, by omega⟩
  have hc := h.came hT
  have adv18 : ∀ y : Nat → Nat, zadv y 18 = y 18 + y 1 := fun y => by
    unfold zadv
    split <;> simp (disch := omega) only [uN_s, uN_n]
  have adv : ∀ y : Nat → Nat, ZI T B 1 0 0 y → y 18 = z 18 → y 0 = z 0 → y 17 = z 17 → y 9 = z 9 + 1 → y 1 = z 1 → y 19 = z 19 → ZI T B 1 0 0 (zadv y) ∧ zadv y 0 = z 0 ∧ zadv y 18 = z 18 + z 1 ∧ zadv y 19 = z 19 := by
    intro y hy g1 g2 g3 g4 g5 g6
    refine ⟨hy.adv (by omega) (by omega) hT hB, ?_, ?_, ?_⟩
    · rw [zadv_hi _ _ (by omega) (by omega) (by omega), g2]
    · rw [adv18, g1, g5]
    · rw [zadv_hi _ _ (by omega) (by omega) (by omega), g6]
  have u : ∀ j, j ≠ 9 → uN z 9 (z 9 + 1) j = z j := fun j hj => uN_n hj
  have u9 : uN z 9 (z 9 + 1) 9 = z 9 + 1 := uN_s
  suffices hs : ZI T B 1 0 0 (zcome z) ∧ zcome z 0 = z 0 ∧ zcome z 18 = z 18 + z 1 ∧ zcome z 19 = z 19 from ⟨hs.1, hs.2.1, hs.2.2.1, hs.2.2.2, hKC⟩
  unfold zcome
  by_cases hr : z 10 < z 3
  · rw [if_pos hr]
    have lo : ∀ j, j < 42 → j ≠ 10 → j ≠ 9 → zqueue (uN z 9 (z 9 + 1)) j = z j := fun j g1 g2 g3 => by rw [zqueue_lo _ _ g1 g2, u j g3]
    exact adv _ (hc.queue (by rw [u 10 (by omega), u 3 (by omega)]; exact hr)) (lo _ (by omega) (by omega) (by omega)) (lo _ (by omega) (by omega) (by omega)) (lo _ (by omega) (by omega) (by omega)) (by rw [zqueue_lo _ _ (by omega) (by omega), u9]) (lo _ (by omega) (by omega) (by omega)) (lo _ (by omega) (by omega) (by omega))
  · rw [if_neg hr]
    have hk : ∀ k, (if z 5 = 1 then zff z 0 (z 10) else none) = some k → k < z 10 := by
      intro k hk
      split at hk
      · obtain ⟨-, g, -, -⟩ := zff_lt _ _ _ _ hk
        omega
      · cases hk
    cases hm : (if z 5 = 1 then zff z 0 (z 10) else none) with
    | none =>
      have lo : ∀ j, j < 42 → j ≠ 9 → j ≠ 12 → j ≠ 24 → zmiss (uN z 9 (z 9 + 1)) (z 17) (z 16) 0 j = z j := fun j g1 g2 g3 g4 => by rw [zmiss_mid _ _ _ _ _ (by omega) g3 g4, u j g2]
      exact adv _ (hc.miss hT (by omega) _ _ _ (h1 _) (h1 _) (by omega)) (lo _ (by omega) (by omega) (by omega) (by omega)) (lo _ (by omega) (by omega) (by omega) (by omega)) (lo _ (by omega) (by omega) (by omega) (by omega)) (by rw [zmiss_mid _ _ _ _ _ (by omega) (by omega) (by omega), u9]) (lo _ (by omega) (by omega) (by omega) (by omega)) (lo _ (by omega) (by omega) (by omega) (by omega))
    | some k =>
      have hk := hk k hm
      have lo : ∀ j, j < 42 → j ≠ 10 → j ≠ 12 → j ≠ 24 → j ≠ 9 → zqueue (zlose (uN z 9 (z 9 + 1)) k 1) j = z j := fun j g1 g2 g3 g4 g5 => by rw [zqueue_lo _ _ g1 g2, zlose_lo _ _ _ _ g1 g2 g3 g4, u j g5]
      have hl := hc.lose hT (by omega) k 1 (by rw [u 10 (by omega)]; exact hk) (by omega)
      exact adv _ (hl.queue (by rw [zlose_10, u 10 (by omega), zlose_lo _ _ _ _ (by omega) (by omega) (by omega) (by omega), u 3 (by omega)]; omega)) (lo _ (by omega) (by omega) (by omega) (by omega) (by omega)) (lo _ (by omega) (by omega) (by omega) (by omega) (by omega)) (lo _ (by omega) (by omega) (by omega) (by omega) (by omega)) (by rw [zqueue_lo _ _ (by omega) (by omega), zlose_lo _ _ _ _ (by omega) (by omega) (by omega) (by omega), u9]) (lo _ (by omega) (by omega) (by omega) (by omega) (by omega)) (lo _ (by omega) (by omega) (by omega) (by omega) (by omega))
theorem ZI.KQ {T B e1 e2 : Nat} {z : Nat → Nat} (h : ZI T B e1 e2 0 z) (hT : T ≤ 150000) (he : e1 ≤ 1) (he2 : e2 ≤ 1) : KQ z := by
  obtain ⟨h1, h2, ⟨c1, c2, c3, c4, c5, c6, c7, c8, c9, c10⟩, h4, h5, ⟨d1, d2, d3, d4, d5, d6⟩⟩ := h
  obtain ⟨s1, s2, s3, s4, s5, s6, s7, s8, s9, s10, s11, s12⟩ := id h2
  exact ⟨h1, s8, c6, by omega, h5, by omega, by omega, by omega, by rw [c9]; split <;> omega, by omega⟩
theorem ZI.row {T B e1 : Nat} {z : Nat → Nat} (h : ZI T B e1 1 0 z) (h19 : z 19 = z 0) (hw : z 20 + z 21 + z 22 + 1 ≤ z 13) (hT : T ≤ 150000) (hB : 200000 ≤ B) : ZI T B e1 1 0 (zrow z) ∧ zrow z 0 = z 0 ∧ zrow z 18 = z 18 ∧ zrow z 19 = z 19 + z 2 := by
  obtain ⟨h1, h2, ⟨c1, c2, c3, c4, c5, c6, c7, c8, c9, c10⟩, h4, h5, ⟨d1, d2, d3, d4, d5, d6⟩⟩ := h
  obtain ⟨s1, s2, s3, s4, s5, s6, s7, s8, s9, s10, s11, s12⟩ := id h2
  have lo : ∀ j, j < 15 ∨ 23 < j ∨ (15 < j ∧ j < 19) → zrow z j = z j := fun j g => zrow_hi z j g
  have hj := zjudge_le (uN z 15 0)
  have a15 : zrow z 15 < 2 * z 4 := by
    unfold zrow zend
    split <;> simp (disch := omega) only [uN_s, uN_n] <;> omega
  have a19 : zrow z 19 = z 19 + z 2 := by
    unfold zrow zend
    split <;> simp (disch := omega) only [uN_s, uN_n]
  have a20 : zrow z 20 + zrow z 21 + zrow z 22 ≤ z 20 + z 21 + z 22 + 1 := by
    unfold zrow zend
    split
    · simp (disch := omega) only [uN_s, uN_n]; omega
    · generalize zjudge (uN z 15 0) = g at hj ⊢
      rcases (show g = 0 ∨ g = 1 ∨ g = 2 by omega) with rfl | rfl | rfl <;> simp (disch := omega) only [uN_s, uN_n, Nat.reduceAdd] <;> omega
  refine ⟨⟨?_, ?_, ⟨?_, ?_, ?_, ?_, ?_, ?_, ?_, ?_, ?_, ?_⟩, fun k hk => ?_, fun i hi => ?_, ⟨?_, ?_, ?_, ?_, ?_, ?_⟩⟩, lo 0 (by omega), lo 18 (by omega), a19⟩
  · have g1 := h1 20
    have g2 := h1 21
    have g3 := h1 22
    unfold zrow zend
    split
    · exact lt_uN (lt_uN h1 _ _ (by omega)) _ _ (by rw [uN_n (by omega), uN_n (by omega)]; omega)
    · generalize zjudge (uN z 15 0) = g at hj ⊢
      have hg : z (20 + g) + 1 < 4294967296 := by
        rcases (show g = 0 ∨ g = 1 ∨ g = 2 by omega) with rfl | rfl | rfl <;> simp only [Nat.reduceAdd, Nat.add_zero] <;> omega
      exact lt_uN (lt_uN (lt_uN (lt_uN h1 _ _ (by omega)) _ _ (by omega)) _ _ hg) _ _ (by rw [uN_n (by omega), uN_n (by omega), uN_n (by omega), uN_n (by omega), uN_n (by omega), uN_n (by omega)]; omega)
  · unfold ZS at h2 ⊢
    simp (disch := omega) only [lo]
    exact h2
  all_goals try simp (disch := omega) only [lo, a19]
  all_goals first | omega | exact h4 _ hk | skip
  rw [lo 10 (by omega)] at hi
  exact h5 i hi
theorem zrow_20 (z : Nat → Nat) : zrow z 19 = z 19 + z 2 := by
  have hj := zjudge_le (uN z 15 0)
  unfold zrow zend
  split <;> simp (disch := omega) only [uN_s, uN_n]
theorem ZI.show {T B e1 : Nat} {z : Nat → Nat} (h : ZI T B e1 0 0 z) (h19 : z 19 = z 0) (hT : T ≤ 150000) (hB : 200000 ≤ B) (he : e1 ≤ 1) : ZI T B e1 1 0 (zshow z (z 15)) ∧ zshow z (z 15) 0 = z 0 ∧ zshow z (z 15) 18 = z 18 ∧ zshow z (z 15) 19 = z 19 + z 2 := by
  have hK := h.KQ hT he (by omega)
  obtain ⟨h1, h2, ⟨c1, c2, c3, c4, c5, c6, c7, c8, c9, c10⟩, h4, h5, ⟨d1, d2, d3, d4, d5, d6⟩⟩ := h
  obtain ⟨s1, s2, s3, s4, s5, s6, s7, s8, s9, s10, s11, s12⟩ := id h2
  have hr : z 15 < 32 := by omega
  -- a state that differs in the row's cells, in 13, 14, and the lines that wait
  have key : ∀ y : Nat → Nat, (∀ k, y k < 4294967296) → (∀ j, j < 42 → j ≠ 10 → j ≠ 11 → j ≠ 13 → j ≠ 14 → y j = z j) → y 13 = z 13 + 1 → y 14 ≤ z 14 + 1 → y 10 + y 11 = z 10 + z 11 → y 10 ≤ z 10 → (∀ p, p < y 10 → y (42 + 4 * p + 3) ≤ 1) → ZI T B e1 1 0 (zrow y) ∧ zrow y 0 = z 0 ∧ zrow y 18 = z 18 ∧ zrow y 19 = z 19 + z 2 := by
    intro y y1 ylo y13 y14 y10 y10' yq
    have hy : ZI T B e1 1 0 y := by
      refine ⟨y1, ?_, ⟨?_, ?_, ?_, ?_, ?_, ?_, ?_, ?_, ?_, ?_⟩, fun k hk => ?_, yq, ⟨?_, ?_, ?_, ?_, ?_, ?_⟩⟩
      · unfold ZS at h2 ⊢
        simp (disch := omega) only [ylo]
        exact h2
      all_goals try simp (disch := omega) only [ylo, y13]
      all_goals first | omega | exact h4 _ hk
    have := hy.row (by rw [ylo 19 (by omega) (by omega) (by omega) (by omega) (by omega), ylo 0 (by omega) (by omega) (by omega) (by omega) (by omega)]; exact h19) (by rw [ylo 20 (by omega) (by omega) (by omega) (by omega) (by omega), ylo 21 (by omega) (by omega) (by omega) (by omega) (by omega), ylo 22 (by omega) (by omega) (by omega) (by omega) (by omega), y13]; omega) hT hB
    rw [ylo 19 (by omega) (by omega) (by omega) (by omega) (by omega), ylo 0 (by omega) (by omega) (by omega) (by omega) (by omega), ylo 18 (by omega) (by omega) (by omega) (by omega) (by omega), ylo 2 (by omega) (by omega) (by omega) (by omega) (by omega)] at this
    exact this
  unfold zshow
  by_cases h0 : z 10 = 0
  · rw [if_pos h0]
    unfold zempty
    have hw : NON < 4294967296 := by unfold NON; omega
    revert hw
    generalize NON = w
    intro hw
    have lo : ∀ j, j < 106 → j ≠ 13 → j ≠ 14 → zemptyW z (z 15) w j = z j := fun j g1 g2 g3 => zempty_lo z (z 15) w j g1 g2 g3
    refine key _ (zempty_lt h1 _ _ hw (by omega) (by omega)) (fun j g1 g2 g3 g4 g5 => lo j (by omega) g4 g5) ?_ ?_ ?_ ?_ ?_
    · simp (disch := omega) only [zemptyW, uN_s, uN_n]
    · simp (disch := omega) only [zemptyW, uN_s, uN_n]; omega
    · rw [lo 10 (by omega) (by omega) (by omega), lo 11 (by omega) (by omega) (by omega)]
    · rw [lo 10 (by omega) (by omega) (by omega)]; exact Nat.le_refl _
    · intro p hp
      rw [lo 10 (by omega) (by omega) (by omega)] at hp
      omega
  · rw [if_neg h0]
    have h45 : z 45 ≤ 1 := by have := h5 0 (by omega); simpa using this
    have lo : ∀ j, j < 106 → j ≠ 13 → j ≠ 45 → zfirst z (z 15) j = z j := fun j g1 g2 g3 => zfirst_hi z (z 15) j (by omega) hr g2 g3
    have f45 : zfirst z (z 15) 45 = z 45 + 1 := by unfold zfirst; rw [uN_s]
    have f13 : zfirst z (z 15) 13 = z 13 + 1 := by simp (disch := omega) only [zfirst, uN_s, uN_n]
    have flt : ∀ k, zfirst z (z 15) k < 4294967296 := by
      unfold zfirst
      exact lt_uN (lt_uN (lt_uN (lt_uN (lt_uN h1 _ _ (h1 44)) _ _ (h1 42)) _ _ (h1 43)) _ _ (by omega)) _ _ (by omega)
    by_cases h2' : z 45 + 1 = 2
    · rw [if_pos h2']
      have zl : ∀ j, j < 42 → j ≠ 10 → zleave (uN (zfirst z (z 15)) 11 (z 11 + 1)) 0 j = uN (zfirst z (z 15)) 11 (z 11 + 1) j := fun j g1 g2 => by
        simp only [zleave, zlvF]
        rw [if_neg (by omega), uN_n g2]
      have z10 : zleave (uN (zfirst z (z 15)) 11 (z 11 + 1)) 0 10 = z 10 - 1 := by
        simp only [zleave, zlvF]
        rw [if_neg (by omega), uN_s, uN_n (by omega), lo 10 (by omega) (by omega) (by omega)]
      refine key _ ?_ (fun j g1 g2 g3 g4 g5 => by rw [zl j g1 g2, uN_n g3, lo j (by omega) g4 (by omega)]) ?_ ?_ ?_ ?_ ?_
      · refine zlvF_lt (lt_uN (lt_uN flt _ _ (by omega)) _ _ ?_) _
        rw [uN_n (by omega), lo 10 (by omega) (by omega) (by omega)]
        have := h1 10
        omega
      · rw [zl 13 (by omega) (by omega), uN_n (by omega), f13]
      · rw [zl 14 (by omega) (by omega), uN_n (by omega), lo 14 (by omega) (by omega) (by omega)]; omega
      · rw [z10, zl 11 (by omega) (by omega), uN_s]; omega
      · rw [z10]; omega
      · intro p hp
        rw [z10] at hp
        simp only [zleave, zlvF]
        rw [uN_s, uN_n (show 10 ≠ 11 by omega), lo 10 (by omega) (by omega) (by omega), if_pos (by omega), uN_n (by omega), uN_n (by omega), lo _ (by omega) (by omega) (by omega)]
        have := h5 (p + 1) (by omega)
        rw [show 42 + 4 * (p + 1) + 3 = 42 + 4 * p + 3 + 4 by omega] at this
        exact this
    · rw [if_neg h2']
      refine key _ flt (fun j g1 g2 g3 g4 g5 => lo j (by omega) g4 (by omega)) f13 ?_ ?_ ?_ ?_
      · rw [lo 14 (by omega) (by omega) (by omega)]; omega
      · rw [lo 10 (by omega) (by omega) (by omega), lo 11 (by omega) (by omega) (by omega)]
      · rw [lo 10 (by omega) (by omega) (by omega)]; exact Nat.le_refl _
      · intro p hp
        rw [lo 10 (by omega) (by omega) (by omega)] at hp
        by_cases e : p = 0
        · rw [e]
          show zfirst z (z 15) 45 ≤ 1
          rw [f45]; omega
        · rw [lo _ (by omega) (by omega) (by omega)]
          exact h5 p hp
theorem ZI.skip {T B e1 e2 : Nat} (hT : T ≤ 150000) (he : e1 ≤ 1) : ∀ (n : Nat) (z : Nat → Nat), ZI T B e1 e2 0 z → ZI T B e1 e2 0 (zskip z n) := by
  intro n
  induction n with
  | zero => intro z h; exact h
  | succ n ih =>
    intro z h
    unfold zskip
    split
    · exact h
    · rename_i hc
      exact ih _ (h.lose hT he 0 2 (Nat.pos_of_ne_zero fun e => hc (Or.inl e)) (by omega))
theorem ZI.out {T B e1 : Nat} {z : Nat → Nat} (h : ZI T B e1 0 0 z) (h19 : z 19 = z 0) (hT : T ≤ 150000) (hB : 200000 ≤ B) (he : e1 ≤ 1) : ZI T B e1 1 0 (zout z) ∧ zout z 0 = z 0 ∧ zout z 18 = z 18 ∧ zout z 19 = z 19 + z 2 := by
  unfold zout
  by_cases hc : z 6 = 1 ∧ z 15 = 0
  · rw [if_pos hc]
    have lo : ∀ j, j < 42 → j ≠ 10 → j ≠ 12 → j ≠ 24 → zskip z (z 10) j = z j := fun j h1 h2 h3 h4 => zskip_lo j h1 h2 h3 h4 _ _
    have := (ZI.skip hT he (z 10) z h).show (by rw [lo 19 (by omega) (by omega) (by omega) (by omega), lo 0 (by omega) (by omega) (by omega) (by omega)]; exact h19) hT hB he
    rw [lo 15 (by omega) (by omega) (by omega) (by omega), lo 0 (by omega) (by omega) (by omega) (by omega), lo 18 (by omega) (by omega) (by omega) (by omega), lo 19 (by omega) (by omega) (by omega) (by omega), lo 2 (by omega) (by omega) (by omega) (by omega)] at this
    exact this
  · rw [if_neg hc]
    exact h.show h19 hT hB he
theorem ZI.end2 {T B e1 e2 : Nat} {z : Nat → Nat} (h : ZI T B e1 e2 0 z) (h18 : z 0 < z 18) (h19 : z 0 < z 19) (he : e1 ≤ 1) (he2 : e2 ≤ 1) (hT : T ≤ 150000) : ZI (T + 1) B 0 0 0 (zend2 z) := by
  obtain ⟨h1, h2, ⟨c1, c2, c3, c4, c5, c6, c7, c8, c9, c10⟩, h4, h5, ⟨d1, d2, d3, d4, d5, d6⟩⟩ := h
  obtain ⟨s1, s2, s3, s4, s5, s6, s7, s8, s9, s10, s11, s12⟩ := id h2
  have lo : ∀ j, j ≠ 0 → j ≠ 25 → zend2 z j = z j := fun j g1 g2 => by unfold zend2; rw [uN_n g2, uN_n g1]
  have a0 : zend2 z 0 = z 0 + 1 := by unfold zend2; rw [uN_n (by omega), uN_s]
  have a25 : zend2 z 25 = z 25 + z 10 := by unfold zend2; rw [uN_s]
  have g18 := h1 18
  refine ⟨?_, ?_, ⟨?_, ?_, ?_, ?_, ?_, ?_, ?_, ?_, ?_, ?_⟩, fun k hk => ?_, fun i hi => ?_, ⟨?_, ?_, ?_, ?_, ?_, ?_⟩⟩
  · unfold zend2
    intro k
    simp only [uN]
    have := h1 k
    have g25 := h1 25
    repeat' split
    all_goals first | omega | skip
  · unfold ZS at h2 ⊢
    simp (disch := omega) only [lo]
    exact h2
  all_goals try simp (disch := omega) only [lo, a0, a25]
  all_goals first | omega | exact h4 _ hk | skip
  rw [lo 10 (by omega) (by omega)] at hi
  exact h5 i hi
