/-! ===== the whole text, both sides ===== -/
def chain (p : Nat → Nat) (n : Nat) (ords : Nat → Int32) (M : Nat) : Nat → Nat → Prop
  | 0, _ => False
  | d + 1, k => ∃ o f s k', ordR p n k = some (o, f, s, k') ∧ ords (3 * (M - (d + 1))) = nI o ∧ ords (3 * (M - (d + 1)) + 1) = nI f ∧ (o = 118 → ords (3 * (M - (d + 1)) + 2) = nI s) ∧ ((d = 0 ∧ k' = n) ∨ (d ≠ 0 ∧ lk p n k' = 59 ∧ chain p n ords M d (k' + 1)))
theorem text_loop {p : Nat → Nat} {n : Nat} {ch mpad : Nat → Int32} (h : PD p n ch mpad) : ∀ (f g k m : Nat) (ords : Nat → Int32) (po pf ps : Int32), 3 * m ≤ k → k ≤ n → n < k + f → n + 1 < k + g → (∃ k' po' pf' ps' ords' M, fX1_findFault_7 f ch (nI n) (nI k) po pf ps (nI m) = some (-6, nI k', po', pf', ps') ∧ fX5_isText_12 g mpad (nI n) (nI k) ords (nI m) 1 = some (1, nI n, ords', nI M) ∧ m < M ∧ M ≤ 40 ∧ chain p n ords' M (M - m) k ∧ ∀ j, j < 3 * m → ords' j = ords j) ∨ (∃ k' po' pf' ps' ords' M, fX1_findFault_7 f ch (nI n) (nI k) po pf ps (nI m) = some (nI k', nI k', po', pf', ps') ∧ fX5_isText_12 g mpad (nI n) (nI k) ords (nI m) 1 = some (0, nI k', ords', nI M) ∧ k' ≤ 1000 ∧ M ≤ 40) := by
  intro f
  induction f with
  | zero => intro g k m ords po pf ps g1 g2 g3 gg; omega
  | succ f ih =>
    intro g k m ords po pf ps g1 g2 g3 gg
    obtain ⟨g, rfl⟩ : ∃ g', g = g' + 1 + 1 := ⟨g - 2, by omega⟩
    have hn := h.1
    have ec : fX1_findFault_7 (f + 1) ch (nI n) (nI k) po pf ps (nI m) = fX1_findFault_7_b (fX1_findFault_7 f) ch (nI n) (nI k) po pf ps (nI m) := rfl
    have ez : fX5_isText_12 (g + 1 + 1) mpad (nI n) (nI k) ords (nI m) 1 = fX5_isText_12_b (fX5_isText_12 (g + 1)) mpad (nI n) (nI k) ords (nI m) 1 := rfl
    rw [ec, ez]
    unfold fX1_findFault_7_b fX5_isText_12_b
    rw [if_neg (show ¬ (1 : Int32) = 0 by decide), li_80, if_neg (fun e => by have := (nI_le31 (by omega) (by omega)).1 e; omega)]
    rcases order_c h k g2 po pf ps with ⟨o, v, s, k', r1, c1⟩ | ⟨r1, po', pf', ps', c1⟩
    · rcases order_z h ords k m g2 (by omega) with ⟨o2, v2, s2, k2, ords', r2, z1, z2, z3, z4, z5⟩ | ⟨r2, -⟩
      · rw [r1] at r2
        cases r2
        obtain ⟨b1, b2, b3, b4, b5⟩ := ordR_b r1
        rw [c1, z1, ob5_ev, ob3_ev, if_neg (by decide), if_neg (by decide), li_59, sign_c h k' 59 (by omega) (by omega), sign_z h k' 59 (by omega) (by omega) (by omega)]
        simp only [nm_ev, nI_1]
        by_cases g4 : lk p n k' = 59
        · have hlt := lk_lt (p := p) (n := n) (k := k') (by omega)
          rw [if_pos g4, ob2_ev, ob2_ev, if_neg n10]
          rcases ih (g + 1) (k' + 1) (m + 1) ords' (nI o) (nI v) (nI s) (by omega) (by omega) (by omega) (by omega) with ⟨k3, po', pf', ps', ords3, M, u1, u2, u3, u4, u5, u6⟩ | ⟨k3, po', pf', ps', ords3, M, u1, u2, u3, u4⟩
          · refine Or.inl ⟨k3, po', pf', ps', ords3, M, u1, u2, by omega, u4, ?_, fun j hj => (u6 j (by omega)).trans (z5 j hj)⟩
            obtain ⟨d, hd⟩ : ∃ d, M - m = d + 1 := ⟨M - m - 1, by omega⟩
            rw [hd]
            have em : M - (d + 1) = m := by omega
            refine ⟨o, v, s, k', r1, ?_, ?_, fun e => ?_, Or.inr ⟨by omega, g4, ?_⟩⟩
            · rw [em, u6 _ (by omega), z2]
            · rw [em, u6 _ (by omega), z3]
            · rw [em, u6 _ (by omega), z4 e]
            · rw [show M - (m + 1) = d by omega] at u5
              exact u5
          · exact Or.inr ⟨k3, po', pf', ps', ords3, M, u1, u2, u3, u4⟩
        · rw [if_neg g4, ob2_ev, ob2_ev, if_pos e00]
          have ez2 : fX5_isText_12 (g + 1) mpad (nI n) (nI k') ords' (nI (m + 1)) 0 = fX5_isText_12_b (fX5_isText_12 g) mpad (nI n) (nI k') ords' (nI (m + 1)) 0 := rfl
          rw [ez2]
          unfold fX5_isText_12_b
          rw [if_pos (show (0 : Int32) = 0 from rfl)]
          by_cases g5 : k' = n
          · subst g5
            rw [if_pos rfl, if_pos rfl]
            refine Or.inl ⟨k', _, _, _, ords', m + 1, rfl, rfl, by omega, by omega, ?_, z5⟩
            rw [show m + 1 - m = 0 + 1 by omega]
            exact ⟨o, v, s, k', r1, by rw [show m + 1 - (0 + 1) = m by omega]; exact z2, by rw [show m + 1 - (0 + 1) = m by omega]; exact z3, fun e => by rw [show m + 1 - (0 + 1) = m by omega]; exact z4 e, Or.inl ⟨rfl, rfl⟩⟩
          · have ne : ¬ nI k' = nI n := fun e => g5 ((nI_eq32 (by omega) (by omega)).1 e)
            rw [if_neg ne, if_neg ne]
            exact Or.inr ⟨k', _, _, _, ords', m + 1, rfl, rfl, by omega, by omega⟩
      · rw [r1] at r2
        cases r2
    · rcases order_z h ords k m g2 (by omega) with ⟨o2, v2, s2, k2, ords', r2, -⟩ | ⟨r2, ords', z1⟩
      · rw [r1] at r2
        cases r2
      · rw [c1, z1, ob5_ev, ob3_ev, if_pos (by decide), if_pos (by decide)]
        refine Or.inr ⟨ordK p n k, po', pf', ps', ords', m, rfl, rfl, ?_, by omega⟩
        unfold ordK
        by_cases q1 : isOd (lk p n k)
        · rw [if_neg (fun e => e q1)]
          by_cases q2 : dg p n (k + 1)
          · have b := numV_b q2
            rw [if_neg (fun e => e q2)]
            split <;> omega
          · rw [if_pos q2]
            omega
        · rw [if_pos q1]
          omega
theorem text_c {p : Nat → Nat} {n : Nat} {ch mpad : Nat → Int32} (h : PD p n ch mpad) (pa po pf ps mat ordn : Int32) (ords : Nat → Int32) : (∃ k' po' pf' ps' ords' M, fX1_findFault ch (nI n) pa po pf ps = some (-6, nI k', po', pf', ps') ∧ fX5_isText mpad (nI n) mat ords ordn = some (1, nI n, ords', nI M) ∧ 0 < M ∧ M ≤ 40 ∧ chain p n ords' M M 0) ∨ (∃ k' po' pf' ps' ords' M, fX1_findFault ch (nI n) pa po pf ps = some (nI k', nI k', po', pf', ps') ∧ fX5_isText mpad (nI n) mat ords ordn = some (0, nI k', ords', nI M) ∧ k' ≤ 1000) := by
  have hn := h.1
  unfold fX1_findFault fX5_isText
  rcases text_loop h KF KF 0 0 ords po pf ps (by omega) (by omega) (by rw [KF_eq]; omega) (by rw [KF_eq]; omega) with ⟨k', po', pf', ps', ords', M, u1, u2, u3, u4, u5, u6⟩ | ⟨k', po', pf', ps', ords', M, u1, u2, u3, u4⟩
  · exact Or.inl ⟨k', po', pf', ps', ords', M, u1, u2, u3, u4, u5⟩
  · exact Or.inr ⟨k', po', pf', ps', ords', M, u1, u2, u3⟩
theorem fault_c {p : Nat → Nat} {n : Nat} {ch mpad : Nat → Int32} (h : PD p n ch mpad) (pa po pf ps mat ordn : Int32) (ords : Nat → Int32) : ∃ r pa' po' pf' ps' mat' ords' ordn', fX4_fault ch (nI n) pa po pf ps = some (r, pa', po', pf', ps') ∧ fX5_fault mpad (nI n) mat ords ordn = some (r, mat', ords', ordn') := by
  unfold fX4_fault fX5_fault
  rcases text_c h pa po pf ps mat ordn ords with ⟨k', po', pf', ps', ords', M, u1, u2, -⟩ | ⟨k', po', pf', ps', ords', M, u1, u2, -⟩
  · rw [u1, u2, ob5_ev, ob4_ev, if_neg (by decide)]
    exact ⟨_, _, _, _, _, _, _, _, rfl, rfl⟩
  · rw [u1, u2, ob5_ev, ob4_ev, if_pos (by decide)]
    exact ⟨_, _, _, _, _, _, _, _, rfl, rfl⟩
