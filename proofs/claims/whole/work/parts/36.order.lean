/-! ===== orders, and the whole text ===== -/
abbrev isOd (c : Nat) : Prop := c = 105 ∨ c = 111 ∨ c = 118 ∨ c = 116 ∨ c = 60 ∨ c = 62
theorem isOd_c (c : Nat) (hc : c ≤ 126) : fX1_isOrder (nI c) = if isOd c then some 1 else some 0 := by
  have h : ∀ c, c < 127 → fX1_isOrder (nI c) = if isOd c then some 1 else some 0 := by decide +kernel
  exact h c (by omega)
def ordR (p : Nat → Nat) (n k : Nat) : Option (Nat × Nat × Nat × Nat) :=
  if ¬ isOd (lk p n k) then none else
  if ¬ dg p n (k + 1) then none else
  if lk p n k = 118 then
    if lk p n (numV p n (k + 1)).2 = 61 then
      if dg p n ((numV p n (k + 1)).2 + 1) then some (118, (numV p n (k + 1)).1, (numV p n ((numV p n (k + 1)).2 + 1)).1, (numV p n ((numV p n (k + 1)).2 + 1)).2) else none
    else none
  else some (lk p n k, (numV p n (k + 1)).1, 0, (numV p n (k + 1)).2)
def ordK (p : Nat → Nat) (n k : Nat) : Nat :=
  if ¬ isOd (lk p n k) then k else
  if ¬ dg p n (k + 1) then k + 1 else
  if lk p n (numV p n (k + 1)).2 = 61 then (numV p n (k + 1)).2 + 1 else (numV p n (k + 1)).2
theorem ordR_0 {p : Nat → Nat} {n k : Nat} (h : ¬ isOd (lk p n k)) : ordR p n k = none ∧ ordK p n k = k := by
  unfold ordR ordK
  exact ⟨if_pos h, if_pos h⟩
theorem ordR_1 {p : Nat → Nat} {n k : Nat} (h : isOd (lk p n k)) (h1 : ¬ dg p n (k + 1)) : ordR p n k = none ∧ ordK p n k = k + 1 := by
  unfold ordR ordK
  exact ⟨(if_neg (not_not_intro h)).trans (if_pos h1), (if_neg (not_not_intro h)).trans (if_pos h1)⟩
theorem ordR_2 {p : Nat → Nat} {n k : Nat} (h : isOd (lk p n k)) (h1 : dg p n (k + 1)) (h2 : lk p n k = 118) (h3 : ¬ lk p n (numV p n (k + 1)).2 = 61) : ordR p n k = none ∧ ordK p n k = (numV p n (k + 1)).2 := by
  unfold ordR ordK
  exact ⟨(if_neg (not_not_intro h)).trans ((if_neg (not_not_intro h1)).trans ((if_pos h2).trans (if_neg h3))), (if_neg (not_not_intro h)).trans ((if_neg (not_not_intro h1)).trans (if_neg h3))⟩
theorem ordR_3 {p : Nat → Nat} {n k : Nat} (h : isOd (lk p n k)) (h1 : dg p n (k + 1)) (h2 : lk p n k = 118) (h3 : lk p n (numV p n (k + 1)).2 = 61) (h4 : ¬ dg p n ((numV p n (k + 1)).2 + 1)) : ordR p n k = none ∧ ordK p n k = (numV p n (k + 1)).2 + 1 := by
  unfold ordR ordK
  exact ⟨(if_neg (not_not_intro h)).trans ((if_neg (not_not_intro h1)).trans ((if_pos h2).trans ((if_pos h3).trans (if_neg h4)))), (if_neg (not_not_intro h)).trans ((if_neg (not_not_intro h1)).trans (if_pos h3))⟩
theorem ordR_4 {p : Nat → Nat} {n k : Nat} (h : isOd (lk p n k)) (h1 : dg p n (k + 1)) (h2 : lk p n k = 118) (h3 : lk p n (numV p n (k + 1)).2 = 61) (h4 : dg p n ((numV p n (k + 1)).2 + 1)) : ordR p n k = some (118, (numV p n (k + 1)).1, (numV p n ((numV p n (k + 1)).2 + 1)).1, (numV p n ((numV p n (k + 1)).2 + 1)).2) := by
  unfold ordR
  exact (if_neg (not_not_intro h)).trans ((if_neg (not_not_intro h1)).trans ((if_pos h2).trans ((if_pos h3).trans (if_pos h4))))
theorem ordR_5 {p : Nat → Nat} {n k : Nat} (h : isOd (lk p n k)) (h1 : dg p n (k + 1)) (h2 : ¬ lk p n k = 118) : ordR p n k = some (lk p n k, (numV p n (k + 1)).1, 0, (numV p n (k + 1)).2) := by
  unfold ordR
  exact (if_neg (not_not_intro h)).trans ((if_neg (not_not_intro h1)).trans (if_neg h2))
theorem ordR_b {p : Nat → Nat} {n k o f s k' : Nat} (h : ordR p n k = some (o, f, s, k')) : k + 2 ≤ k' ∧ k' ≤ n ∧ isOd o ∧ f ≤ 999 ∧ s ≤ 999 := by
  by_cases g1 : isOd (lk p n k)
  · by_cases g2 : dg p n (k + 1)
    · have b := numV_b g2
      by_cases g3 : lk p n k = 118
      · by_cases g4 : lk p n (numV p n (k + 1)).2 = 61
        · by_cases g5 : dg p n ((numV p n (k + 1)).2 + 1)
          · have b2 := numV_b g5
            rw [ordR_4 g1 g2 g3 g4 g5] at h
            cases h
            exact ⟨by omega, by omega, by decide, by omega, by omega⟩
          · rw [(ordR_3 g1 g2 g3 g4 g5).1] at h
            cases h
        · rw [(ordR_2 g1 g2 g3 g4).1] at h
          cases h
      · rw [ordR_5 g1 g2 g3] at h
        cases h
        exact ⟨by omega, by omega, g1, by omega, by omega⟩
    · rw [(ordR_1 g1 g2).1] at h
      cases h
  · rw [(ordR_0 g1).1] at h
    cases h
theorem n10 : ¬ (1 : Int32) = 0 := by decide
theorem n11 : ¬ nI 1 = 0 := by decide
theorem e00 : (0 : Int32) = 0 := rfl
theorem sign_c {p : Nat → Nat} {n : Nat} {ch mpad : Nat → Int32} (h : PD p n ch mpad) (k s : Nat) (hk : k ≤ 1000) (hs : s ≤ 126) : fX1_readSign ch (nI n) (nI k) (nI s) = if lk p n k = s then some (1, nI (k + 1)) else some (0, nI k) := by
  unfold fX1_readSign
  have hl := lk_le h k
  rw [look_c h k hk, ob1_ev]
  by_cases g : lk p n k = s
  · rw [if_pos (by rw [g]), if_pos g, nm_ev, li_1, nI_add]
  · rw [if_neg (fun e => g ((nI_eq32 (by omega) (by omega)).1 e)), if_neg g]
theorem sign_z {p : Nat → Nat} {n : Nat} {ch mpad : Nat → Int32} (h : PD p n ch mpad) (k s : Nat) (hk : k ≤ 1000) (hs : s ≤ 126) (hs1 : 1 ≤ s) : fX5_isSign mpad (nI n) (nI k) (nI s) = if lk p n k = s then some (1, nI (k + 1)) else some (0, nI k) := by
  unfold fX5_isSign
  rw [isAt_z h k s s hk hs1 (by omega) (Nat.le_refl _)]
  by_cases g : lk p n k = s
  · rw [if_pos (by omega), if_pos g, ob1_ev, if_neg (by decide), nm_ev, nd_ev (by decide), li_1, nI_add]
  · rw [if_neg (by omega), if_neg g, ob1_ev, if_pos (by decide), nm_ev, nd_ev (by decide), li_0, nI_add]
    rfl
theorem order_c {p : Nat → Nat} {n : Nat} {ch mpad : Nat → Int32} (h : PD p n ch mpad) (k : Nat) (hk : k ≤ n) (po pf ps : Int32) : (∃ o f s k', ordR p n k = some (o, f, s, k') ∧ fX1_readOrder ch (nI n) (nI k) po pf ps = some (1, nI k', nI o, nI f, nI s)) ∨ (ordR p n k = none ∧ ∃ po' pf' ps', fX1_readOrder ch (nI n) (nI k) po pf ps = some (0, nI (ordK p n k), po', pf', ps')) := by
  have hn := h.1
  have hl := lk_le h k
  have e1 : nI k + 1 = nI (k + 1) := nI_1 k
  unfold fX1_readOrder
  rw [look_c h k (by omega), ob1_ev, nd_ev (nar_char (by omega)), isOd_c _ hl]
  by_cases g1 : isOd (lk p n k)
  · rw [if_pos g1, ob1_ev, if_neg n10, nm_ev, e1, num_c h (k + 1) (by omega)]
    have c118 : nI (lk p n k) = 118 ↔ lk p n k = 118 := nI_eq32 (b := 118) (by omega) (by omega)
    by_cases g2 : dg p n (k + 1)
    · have b := numV_b g2
      rw [if_pos g2, ob2_ev]
      have hf0 : ¬ nI (numV p n (k + 1)).1 < 0 := nI_pos (by omega)
      have hf1 : 0 ≤ nI (numV p n (k + 1)).1 := nI_pos' (by omega)
      by_cases g3 : lk p n k = 118
      · rw [if_pos (c118.2 g3), if_pos hf1, li_61, sign_c h _ 61 (by omega) (by omega)]
        by_cases g4 : lk p n (numV p n (k + 1)).2 = 61
        · rw [if_pos g4, ob2_ev, if_neg n10, num_c h _ (by omega)]
          by_cases g5 : dg p n ((numV p n (k + 1)).2 + 1)
          · have b2 := numV_b g5
            rw [if_pos g5, ob2_ev, if_neg (nI_pos (by omega)), g3]
            exact Or.inl ⟨_, _, _, _, ordR_4 g1 g2 g3 g4 g5, rfl⟩
          · rw [if_neg g5, ob2_ev, if_pos (by decide), (ordR_3 g1 g2 g3 g4 g5).2]
            exact Or.inr ⟨(ordR_3 g1 g2 g3 g4 g5).1, _, _, _, rfl⟩
        · rw [if_neg g4, ob2_ev, if_pos e00, (ordR_2 g1 g2 g3 g4).2]
          exact Or.inr ⟨(ordR_2 g1 g2 g3 g4).1, _, _, _, rfl⟩
      · rw [if_neg (fun e => g3 (c118.1 e)), if_neg hf0]
        exact Or.inl ⟨_, _, _, _, ordR_5 g1 g2 g3, rfl⟩
    · rw [if_neg g2, ob2_ev, (ordR_1 g1 g2).2]
      refine Or.inr ⟨(ordR_1 g1 g2).1, nI (lk p n k), -6, 0, ?_⟩
      by_cases g3 : nI (lk p n k) = 118
      · rw [if_pos g3, if_neg (by decide), if_pos (by decide)]
      · rw [if_neg g3, if_pos (by decide)]
  · rw [if_neg g1, ob1_ev, if_pos e00, (ordR_0 g1).2]
    exact Or.inr ⟨(ordR_0 g1).1, _, _, _, rfl⟩
theorem num_z1 {p : Nat → Nat} {n : Nat} {ch mpad : Nat → Int32} (h : PD p n ch mpad) (ords : Nat → Int32) (k m : Nat) (hk : k ≤ 100) (hm : 3 * m + 2 < 123) : fX5_isNumber mpad (nI n) (nI k) ords (nI m) 1 = if dg p n k then some (1, nI (numV p n k).2, upd ords (3 * m + 1) (nI (numV p n k).1)) else some (0, nI k, ords) := num_z h ords k m 1 hk (by omega)
theorem num_z2 {p : Nat → Nat} {n : Nat} {ch mpad : Nat → Int32} (h : PD p n ch mpad) (ords : Nat → Int32) (k m : Nat) (hk : k ≤ 100) (hm : 3 * m + 2 < 123) : fX5_isNumber mpad (nI n) (nI k) ords (nI m) 2 = if dg p n k then some (1, nI (numV p n k).2, upd ords (3 * m + 2) (nI (numV p n k).1)) else some (0, nI k, ords) := num_z h ords k m 2 hk (by omega)
theorem onum_z {p : Nat → Nat} {n : Nat} {ch mpad : Nat → Int32} (h : PD p n ch mpad) (ords : Nat → Int32) (k m : Nat) (hk : k ≤ 100) (hm : 3 * m + 2 < 123) : (ob3 (fX5_isNumber mpad (nI n) (nI k) ords (nI m) 1) fun r a b => nd (r = 0 ∨ r = 1) <| some (r, a, b)) = if dg p n k then some (1, nI (numV p n k).2, upd ords (3 * m + 1) (nI (numV p n k).1)) else some (0, nI k, ords) := by
  rw [num_z1 h ords k m hk hm]
  by_cases g : dg p n k
  · rw [if_pos g, ob3_ev, nd_ev (by decide)]
  · rw [if_neg g, ob3_ev, nd_ev (by decide)]
theorem order_z {p : Nat → Nat} {n : Nat} {ch mpad : Nat → Int32} (h : PD p n ch mpad) (ords : Nat → Int32) (k m : Nat) (hk : k ≤ n) (hm : 3 * m + 2 < 123) : (∃ o f s k' ords', ordR p n k = some (o, f, s, k') ∧ fX5_isOrder mpad (nI n) (nI k) ords (nI m) = some (1, nI k', ords') ∧ ords' (3 * m) = nI o ∧ ords' (3 * m + 1) = nI f ∧ (o = 118 → ords' (3 * m + 2) = nI s) ∧ ∀ j, j < 3 * m → ords' j = ords j) ∨ (ordR p n k = none ∧ ∃ ords', fX5_isOrder mpad (nI n) (nI k) ords (nI m) = some (0, nI (ordK p n k), ords')) := by
  have hn := h.1
  have hl := lk_le h k
  unfold fX5_isOrder
  rw [li_3, pk_mul, chk_nI (by omega) (by omega)]
  by_cases hkn : k < n
  · have e : lk p n k = p k := by unfold lk; rw [if_pos hkn]
    rw [if_neg (fun g => by have := (nI_le31 (by omega) (by omega)).1 g; omega), chk_nI (by omega) (by omega), nm_ev, chk_nI (by omega) (by omega), nm_ev, (h.2 k hkn).2.1, ← e]
    rw [nI_1]
    simp only [nm_ev, onum_z h _ (k + 1) m (by omega) hm]
    -- five of the six signs
    have simple : isOd (lk p n k) → lk p n k ≠ 118 → (∃ o f s k' ords', ordR p n k = some (o, f, s, k') ∧ (if dg p n (k + 1) then some ((1 : Int32), nI (numV p n (k + 1)).2, upd (upd ords (3 * m) (nI (lk p n k))) (3 * m + 1) (nI (numV p n (k + 1)).1)) else some ((0 : Int32), nI (k + 1), upd ords (3 * m) (nI (lk p n k)))) = some ((1 : Int32), nI k', ords') ∧ ords' (3 * m) = nI o ∧ ords' (3 * m + 1) = nI f ∧ (o = 118 → ords' (3 * m + 2) = nI s) ∧ ∀ j, j < 3 * m → ords' j = ords j) ∨ (ordR p n k = none ∧ ∃ ords', (if dg p n (k + 1) then some ((1 : Int32), nI (numV p n (k + 1)).2, upd (upd ords (3 * m) (nI (lk p n k))) (3 * m + 1) (nI (numV p n (k + 1)).1)) else some ((0 : Int32), nI (k + 1), upd ords (3 * m) (nI (lk p n k)))) = some ((0 : Int32), nI (ordK p n k), ords')) := by
      intro g1 g3
      by_cases g2 : dg p n (k + 1)
      · rw [if_pos g2]
        refine Or.inl ⟨_, _, _, _, _, ordR_5 g1 g2 g3, rfl, ?_, pk_us, fun e => absurd e g3, fun j hj => ?_⟩
        · rw [pk_un (by omega), pk_us]
        · rw [pk_un (by omega), pk_un (by omega)]
      · refine Or.inr ⟨(ordR_1 g1 g2).1, upd ords (3 * m) (nI (lk p n k)), ?_⟩
        rw [if_neg g2, (ordR_1 g1 g2).2]
    by_cases g1 : isOd (lk p n k)
    · rcases (show lk p n k = 60 ∨ lk p n k = 62 ∨ lk p n k = 105 ∨ lk p n k = 111 ∨ lk p n k = 116 ∨ lk p n k = 118 by unfold isOd at g1; omega) with c | c | c | c | c | c
      · have q := simple g1 (by omega)
        rw [if_pos (show nI (lk p n k) = 60 by rw [c]; rfl)]
        exact q
      · have q := simple g1 (by omega)
        rw [if_neg (show ¬ nI (lk p n k) = 60 by rw [c]; decide), if_pos (show nI (lk p n k) = 62 by rw [c]; rfl)]
        exact q
      · have q := simple g1 (by omega)
        rw [if_neg (show ¬ nI (lk p n k) = 60 by rw [c]; decide), if_neg (show ¬ nI (lk p n k) = 62 by rw [c]; decide), if_pos (show nI (lk p n k) = 105 by rw [c]; rfl)]
        exact q
      · have q := simple g1 (by omega)
        rw [if_neg (show ¬ nI (lk p n k) = 60 by rw [c]; decide), if_neg (show ¬ nI (lk p n k) = 62 by rw [c]; decide), if_neg (show ¬ nI (lk p n k) = 105 by rw [c]; decide), if_pos (show nI (lk p n k) = 111 by rw [c]; rfl)]
        exact q
      · have q := simple g1 (by omega)
        rw [if_neg (show ¬ nI (lk p n k) = 60 by rw [c]; decide), if_neg (show ¬ nI (lk p n k) = 62 by rw [c]; decide), if_neg (show ¬ nI (lk p n k) = 105 by rw [c]; decide), if_neg (show ¬ nI (lk p n k) = 111 by rw [c]; decide), if_pos (show nI (lk p n k) = 116 by rw [c]; rfl)]
        exact q
      · rw [if_neg (show ¬ nI (lk p n k) = 60 by rw [c]; decide), if_neg (show ¬ nI (lk p n k) = 62 by rw [c]; decide), if_neg (show ¬ nI (lk p n k) = 105 by rw [c]; decide), if_neg (show ¬ nI (lk p n k) = 111 by rw [c]; decide), if_neg (show ¬ nI (lk p n k) = 116 by rw [c]; decide), if_pos (show nI (lk p n k) = 118 by rw [c]; rfl), num_z1 h _ (k + 1) m (by omega) (by omega)]
        by_cases g2 : dg p n (k + 1)
        · have b := numV_b g2
          rw [if_pos g2, ob3_ev, if_neg n10, li_61, sign_z h _ 61 (by omega) (by omega) (by omega)]
          by_cases g4 : lk p n (numV p n (k + 1)).2 = 61
          · rw [if_pos g4, ob2_ev, if_neg n10, num_z2 h _ _ m (by omega) (by omega)]
            by_cases g5 : dg p n ((numV p n (k + 1)).2 + 1)
            · rw [if_pos g5, ob3_ev, if_neg n10]
              refine Or.inl ⟨_, _, _, _, _, ordR_4 g1 g2 c g4 g5, rfl, ?_, ?_, fun _ => pk_us, fun j hj => ?_⟩
              · rw [pk_un (by omega), pk_un (by omega), pk_us, c]
              · rw [pk_un (by omega), pk_us]
              · rw [pk_un (by omega), pk_un (by omega), pk_un (by omega)]
            · rw [if_neg g5, ob3_ev, if_pos e00, (ordR_3 g1 g2 c g4 g5).2]
              exact Or.inr ⟨(ordR_3 g1 g2 c g4 g5).1, _, rfl⟩
          · rw [if_neg g4, ob2_ev, if_pos e00, (ordR_2 g1 g2 c g4).2]
            exact Or.inr ⟨(ordR_2 g1 g2 c g4).1, _, rfl⟩
        · rw [if_neg g2, ob3_ev, if_pos e00, (ordR_1 g1 g2).2]
          exact Or.inr ⟨(ordR_1 g1 g2).1, _, rfl⟩
    · rw [(ordR_0 g1).2]
      have ne : ∀ q : Nat, q ≤ 126 → lk p n k ≠ q → ¬ nI (lk p n k) = nI q := fun q hq g e => g ((nI_eq32 (by omega) (by omega)).1 e)
      have g1' := g1
      unfold isOd at g1'
      rw [if_neg (show ¬ nI (lk p n k) = 60 from ne 60 (by omega) (by omega)), if_neg (show ¬ nI (lk p n k) = 62 from ne 62 (by omega) (by omega)), if_neg (show ¬ nI (lk p n k) = 105 from ne 105 (by omega) (by omega)), if_neg (show ¬ nI (lk p n k) = 111 from ne 111 (by omega) (by omega)), if_neg (show ¬ nI (lk p n k) = 116 from ne 116 (by omega) (by omega)), if_neg (show ¬ nI (lk p n k) = 118 from ne 118 (by omega) (by omega))]
      exact Or.inr ⟨(ordR_0 g1).1, _, rfl⟩
  · have e : lk p n k = 0 := by unfold lk; rw [if_neg hkn]
    have g1 : ¬ isOd (lk p n k) := by rw [e]; decide
    rw [if_pos ((nI_le31 (by omega) (by omega)).2 (by omega)), (ordR_0 g1).2]
    exact Or.inr ⟨(ordR_0 g1).1, _, rfl⟩
