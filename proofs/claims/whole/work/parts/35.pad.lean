/-! ===== the text of orders: both sides read alike ===== -/
def PD (p : Nat → Nat) (n : Nat) (ch mpad : Nat → Int32) : Prop := n ≤ 80 ∧ ∀ j, j < n → ch j = nI (p j) ∧ mpad j = nI (p j) ∧ 33 ≤ p j ∧ p j ≤ 126
def lk (p : Nat → Nat) (n k : Nat) : Nat := if k < n then p k else 0
abbrev dg (p : Nat → Nat) (n k : Nat) : Prop := 48 ≤ lk p n k ∧ lk p n k ≤ 57
theorem nar_char {q : Nat} (hq : q < 65536) : vp_nar .char (nI q) = nI q := Value.int.inj (show Value.int (vp_nar .char (nI q)) = Value.int (nI q) from (pk_charN hq).1)
theorem lk_le {p : Nat → Nat} {n : Nat} {ch mpad : Nat → Int32} (h : PD p n ch mpad) (k : Nat) : lk p n k ≤ 126 := by
  unfold lk
  split
  · rename_i hk
    exact (h.2 k hk).2.2.2
  · omega
theorem dg_lt {p : Nat → Nat} {n k : Nat} (h : dg p n k) : k < n := by
  apply Classical.byContradiction
  intro g
  have h2 : lk p n k = 0 := by unfold lk; rw [if_neg g]
  have := h.1
  omega
theorem lk_lt {p : Nat → Nat} {n k : Nat} (h : lk p n k ≠ 0) : k < n := by
  apply Classical.byContradiction
  intro g
  exact h (by unfold lk; rw [if_neg g])
theorem look_c {p : Nat → Nat} {n : Nat} {ch mpad : Nat → Int32} (h : PD p n ch mpad) (k : Nat) (hk : k ≤ 1000) : fX1_look ch (nI n) (nI k) = some (nI (lk p n k)) := by
  obtain ⟨h1, h2⟩ := h
  unfold fX1_look lk
  have c1 := nI_le31 (a := n) (b := k) (by omega) (by omega)
  rw [if_neg (nI_pos (by omega))]
  by_cases g : k < n
  · obtain ⟨a1, a2, a3, a4⟩ := h2 k g
    rw [if_neg (fun e => by have := c1.1 e; omega), li_80, if_neg (fun e => by have := (nI_le31 (by omega) (by omega)).1 e; omega), chk_nI (by omega) (by omega), nm_ev, a1, nd_ev (nar_char (by omega)), if_pos g]
  · rw [if_pos (c1.2 (by omega)), if_neg g]
    rfl
theorem isDigit_c (v : Nat) (hv : v ≤ 126) : fX1_isDigit (nI v) = if 48 ≤ v ∧ v ≤ 57 then some 1 else some 0 := by
  unfold fX1_isDigit
  rw [li_48, li_57]
  have c1 := nI_lt31 (a := v) (b := 48) (by omega) (by omega)
  have c2 := nI_lt31 (a := 57) (b := v) (by omega) (by omega)
  by_cases g1 : v < 48
  · rw [if_pos (c1.2 g1), if_neg (by omega)]
  · rw [if_neg (fun e => g1 (c1.1 e))]
    by_cases g2 : 57 < v
    · rw [if_pos (c2.2 g2), if_neg (by omega)]
    · rw [if_neg (fun e => g2 (c2.1 e)), if_pos (by omega)]
theorem isAt_z {p : Nat → Nat} {n : Nat} {ch mpad : Nat → Int32} (h : PD p n ch mpad) (k lo hi : Nat) (hk : k ≤ 1000) (hl : 1 ≤ lo) (hh : hi ≤ 1000) (hlh : lo ≤ hi) : fX5_isAt mpad (nI n) (nI k) (nI lo) (nI hi) = if lo ≤ lk p n k ∧ lk p n k ≤ hi then some 1 else some 0 := by
  obtain ⟨h1, h2⟩ := h
  unfold fX5_isAt lk
  have c1 := nI_le31 (a := n) (b := k) (by omega) (by omega)
  by_cases g : k < n
  · obtain ⟨a1, a2, a3, a4⟩ := h2 k g
    rw [if_neg (fun e => by have := c1.1 e; omega), chk_nI (by omega) (by omega), a2, in_eq, if_pos g]
    by_cases g1 : lo ≤ p k ∧ p k ≤ hi
    · rw [within_n _ _ _ g1.1 g1.2 (by omega), ob1_ev, if_neg (by decide), if_pos g1]
    · rw [if_neg g1]
      by_cases g2 : p k < lo
      · rw [within_lo ((nI_lt31 (by omega) (by omega)).2 g2)]; rfl
      · rw [within_hi ((nI_lt31 (a := hi) (b := p k) (by omega) (by omega)).2 (by omega))]; rfl
  · rw [if_pos (c1.2 (by omega)), if_neg g, if_neg (by omega)]
/-! numbers -/
theorem rn_step {p : Nat → Nat} {n : Nat} {ch mpad : Nat → Int32} (h : PD p n ch mpad) (f x k x2 : Nat) (hx : x < 10000) (hk : k ≤ 1000) (h2 : x2 ≤ 10) : fX1_readNumber_33 (f + 1) ch (nI n) (nI k) (nI x) (nI x2) = if 3 ≤ x2 ∨ x = 0 ∨ ¬ dg p n k then some (nI x, nI k) else fX1_readNumber_33 f ch (nI n) (nI (k + 1)) (nI (10 * x + lk p n k - 48)) (nI (x2 + 1)) := by
  show fX1_readNumber_33_b (fX1_readNumber_33 f) ch (nI n) (nI k) (nI x) (nI x2) = _
  unfold fX1_readNumber_33_b
  have hl := lk_le h k
  have c1 := nI_le31 (a := 3) (b := x2) (by omega) (by omega)
  have c2 := nI_le31 (a := x) (b := 0) (by omega) (by omega)
  rw [look_c h k hk, ob1_ev, isDigit_c _ hl, ob1_ev, li_3, li_0]
  by_cases g1 : 3 ≤ x2
  · rw [if_pos (c1.2 g1), if_pos (Or.inl g1)]
  · rw [if_neg (fun e => g1 (c1.1 e))]
    by_cases g2 : x = 0
    · rw [if_pos (c2.2 (by omega)), if_pos (Or.inr (Or.inl g2))]
    · rw [if_neg (fun e => by have := c2.1 e; omega)]
      by_cases g3 : dg p n k
      · have g3' := g3
        unfold dg at g3'
        rw [if_pos g3, ob1_ev, if_neg (by decide), nm_ev, nm_ev, nm_ev, if_neg (by rintro (e | e | e) <;> contradiction), li_10, pk_mul, nI_add, li_48, nI_sub (by omega), li_1, nI_add, nI_add]
      · rw [if_neg g3, ob1_ev, if_pos (by decide), if_pos (Or.inr (Or.inr g3))]
theorem in_step {p : Nat → Nat} {n : Nat} {ch mpad : Nat → Int32} (h : PD p n ch mpad) (ords : Nat → Int32) (f x k m i : Nat) (hx : x < 10000) (hk : k ≤ 1000) (hm : 3 * m + i < 123) : fX5_isNumber_36 (f + 1) mpad (nI n) (nI k) ords (nI m) (nI i) (nI x) = if x = 0 ∨ 100 ≤ x ∨ ¬ dg p n k then some (1, nI k, upd ords (3 * m + i) (nI x)) else fX5_isNumber_36 f mpad (nI n) (nI (k + 1)) ords (nI m) (nI i) (nI (10 * x + lk p n k - 48)) := by
  show fX5_isNumber_36_b (fX5_isNumber_36 f) mpad (nI n) (nI k) ords (nI m) (nI i) (nI x) = _
  unfold fX5_isNumber_36_b
  have hl := lk_le h k
  have c1 := nI_le31 (a := 100) (b := x) (by omega) (by omega)
  have c2 := nI_le31 (a := x) (b := 0) (by omega) (by omega)
  rw [li_48, li_57, isAt_z h k 48 57 hk (by omega) (by omega) (by omega), li_3, pk_mul, nI_add, chk_nI hm (by omega), li_0, li_100, nm_ev]
  by_cases g2 : x = 0
  · rw [if_pos (c2.2 (by omega)), if_pos (Or.inl g2)]
  · rw [if_neg (fun e => by have := c2.1 e; omega)]
    by_cases g1 : 100 ≤ x
    · rw [if_pos (c1.2 g1), if_pos (Or.inr (Or.inl g1))]
    · rw [if_neg (fun e => g1 (c1.1 e))]
      by_cases g3 : dg p n k
      · have g3' := g3
        have hkn := dg_lt g3
        have hn := h.1
        unfold dg at g3'
        have e : lk p n k = p k := by unfold lk; rw [if_pos hkn]
        rw [if_pos g3, ob1_ev, if_neg (by decide), chk_nI (by omega) (by omega), nm_ev, nm_ev, if_neg (by rintro (e | e | e) <;> contradiction), (h.2 k hkn).2.1, ← e, li_10, pk_mul, nI_add, nI_sub (by omega), li_1, nI_add]
      · rw [if_neg g3, ob1_ev, if_pos (by decide), if_pos (Or.inr (Or.inr g3))]
def numV (p : Nat → Nat) (n k : Nat) : Nat × Nat :=
  if lk p n k - 48 = 0 ∨ ¬ dg p n (k + 1) then (lk p n k - 48, k + 1) else
  if ¬ dg p n (k + 2) then (10 * (lk p n k - 48) + lk p n (k + 1) - 48, k + 2) else
  (10 * (10 * (lk p n k - 48) + lk p n (k + 1) - 48) + lk p n (k + 2) - 48, k + 3)
theorem numV_b {p : Nat → Nat} {n k : Nat} (h : dg p n k) : (numV p n k).1 ≤ 999 ∧ k + 1 ≤ (numV p n k).2 ∧ (numV p n k).2 ≤ n := by
  have h0 := dg_lt h
  have h' := h
  unfold dg at h'
  unfold numV
  by_cases g1 : lk p n k - 48 = 0 ∨ ¬ dg p n (k + 1)
  · rw [if_pos g1]
    dsimp only
    omega
  · rw [if_neg g1]
    have d1 : dg p n (k + 1) := Classical.byContradiction fun e => g1 (Or.inr e)
    have h1 := dg_lt d1
    have d1' := d1
    unfold dg at d1'
    by_cases g2 : dg p n (k + 2)
    · have h2 := dg_lt g2
      have g2' := g2
      unfold dg at g2'
      rw [if_neg (fun e => e g2)]
      dsimp only
      omega
    · rw [if_pos g2]
      dsimp only
      omega
theorem num_c {p : Nat → Nat} {n : Nat} {ch mpad : Nat → Int32} (h : PD p n ch mpad) (k : Nat) (hk : k ≤ 100) : fX1_readNumber ch (nI n) (nI k) = if dg p n k then some (nI (numV p n k).1, nI (numV p n k).2) else some (-6, nI k) := by
  unfold fX1_readNumber
  rw [look_c h k (by omega), ob1_ev, isDigit_c _ (lk_le h k), ob1_ev]
  by_cases g : dg p n k
  · have g' := g
    unfold dg at g'
    rw [if_pos g, if_pos g, ob1_ev, if_neg (by decide), nm_ev, nm_ev, li_48, nI_sub (by omega), li_1, nI_add, show KF = 4996 + 1 + 1 + 1 + 1 from KF_eq]
    unfold numV
    rw [rn_step h _ _ _ _ (by omega) (by omega) (by omega)]
    by_cases g1 : lk p n k - 48 = 0 ∨ ¬ dg p n (k + 1)
    · rw [if_pos g1, if_pos (Or.inr g1)]
    · have d1 : dg p n (k + 1) := Classical.byContradiction fun e => g1 (Or.inr e)
      have d1' := d1
      unfold dg at d1'
      rw [if_neg g1, if_neg (by rintro (e | e) <;> first | omega | exact g1 e), rn_step h _ _ _ _ (by omega) (by omega) (by omega)]
      by_cases g2 : dg p n (k + 1 + 1)
      · have g2' := g2
        unfold dg at g2'
        rw [if_neg (by rintro (e | e | e) <;> first | omega | exact e g2), rn_step h _ _ _ _ (by omega) (by omega) (by omega), if_pos (Or.inl (by omega)), if_neg (fun e => e g2)]
      · rw [if_pos (Or.inr (Or.inr g2)), if_pos g2]
  · rw [if_neg g, if_neg g, ob1_ev, if_pos (by decide)]
theorem num_z {p : Nat → Nat} {n : Nat} {ch mpad : Nat → Int32} (h : PD p n ch mpad) (ords : Nat → Int32) (k m i : Nat) (hk : k ≤ 100) (hm : 3 * m + i < 123) : fX5_isNumber mpad (nI n) (nI k) ords (nI m) (nI i) = if dg p n k then some (1, nI (numV p n k).2, upd ords (3 * m + i) (nI (numV p n k).1)) else some (0, nI k, ords) := by
  unfold fX5_isNumber
  rw [li_48, li_57, isAt_z h k 48 57 (by omega) (by omega) (by omega) (by omega)]
  by_cases g : dg p n k
  · have g' := g
    have hkn := dg_lt g
    have hn := h.1
    unfold dg at g'
    have e : lk p n k = p k := by unfold lk; rw [if_pos hkn]
    rw [if_pos g, if_pos g, ob1_ev, if_neg (by decide), chk_nI (by omega) (by omega), nm_ev, nm_ev, (h.2 k hkn).2.1, ← e, nI_sub (by omega), li_1, nI_add, show KF = 4996 + 1 + 1 + 1 + 1 from KF_eq]
    unfold numV
    rw [in_step h _ _ _ _ _ _ (by omega) (by omega) hm]
    by_cases g1 : lk p n k - 48 = 0 ∨ ¬ dg p n (k + 1)
    · rw [if_pos g1, if_pos (g1.elim Or.inl fun e => Or.inr (Or.inr e))]
      rfl
    · have d1 : dg p n (k + 1) := Classical.byContradiction fun e => g1 (Or.inr e)
      have d1' := d1
      unfold dg at d1'
      rw [if_neg g1, if_neg (by rintro (e | e | e) <;> first | exact g1 (Or.inl e) | omega | exact e d1), in_step h _ _ _ _ _ _ (by omega) (by omega) hm]
      by_cases g2 : dg p n (k + 1 + 1)
      · have g2' := g2
        unfold dg at g2'
        rw [if_neg (by rintro (e | e | e) <;> first | omega | exact e g2), in_step h _ _ _ _ _ _ (by omega) (by omega) hm, if_pos (Or.inr (Or.inl (by omega))), if_neg (fun e => e g2)]
        rfl
      · rw [if_pos (Or.inr (Or.inr g2)), if_pos g2]
        rfl
  · rw [if_neg g, if_neg g, ob1_ev, if_pos (by decide)]
