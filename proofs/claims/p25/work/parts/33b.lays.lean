/-! the reference lays an array into another -/
theorem lays_loop (u v : Nat → Nat) (un vn x1 x3 : Nat) (h1 : x1 + 234 ≤ un) (h3 : x3 + 234 ≤ vn) (hu : un < 1000000) (hv : vn < 1000000) : ∀ (n k : Nat) (y : Nat → Nat), k ≤ 234 → 234 < n + k → (∀ j, y j = if x3 ≤ j ∧ j < x3 + k then u (x1 + (j - x3)) else v j) → fX5_lays_3 n un (fI u) vn (fI y) (nI x1) (nI x3) (nI k) = some (fI fun j => if x3 ≤ j ∧ j < x3 + 234 then u (x1 + (j - x3)) else v j) := by
  intro n
  induction n with
  | zero => intro k y g1 g2; omega
  | succ n ih =>
    intro k y g1 g2 hy
    show fX5_lays_3_b (fX5_lays_3 n) un (fI u) vn (fI y) (nI x1) (nI x3) (nI k) = _
    unfold fX5_lays_3_b
    by_cases hk : k = 234
    · rw [if_pos (by rw [hk]; decide)]
      refine congrArg some (congrArg fI (funext fun j => ?_))
      rw [hy j, hk]
    · rw [if_neg (fun g => by have := (nI_le31 (a := 234) (b := k) (by omega) (by omega)).1 g; omega), nI_add, nI_add, chk_nI (by omega) (by omega), chk_nI (by omega) (by omega), nm_ev, fI_ap, upd_fI, nm_ev, li_1, nI_add]
      refine ih (k + 1) _ (by omega) (by omega) fun j => ?_
      by_cases e : j = x3 + k
      · subst e
        rw [uN_s, if_pos (by omega)]
        congr 1
        omega
      · rw [uN_n e, hy j]
        by_cases g : x3 ≤ j ∧ j < x3 + k
        · rw [if_pos g, if_pos (by omega)]
        · rw [if_neg g, if_neg (by omega)]
theorem lays_z (u v : Nat → Nat) (un vn x1 x3 : Nat) (h1 : x1 + 234 ≤ un) (h3 : x3 + 234 ≤ vn) (hu : un < 1000000) (hv : vn < 1000000) : fX5_lays un (fI u) vn (fI v) (nI x1) (nI x3) = some (fI fun j => if x3 ≤ j ∧ j < x3 + 234 then u (x1 + (j - x3)) else v j) := by
  unfold fX5_lays
  exact lays_loop u v un vn x1 x3 h1 h3 hu hv KF 0 v (by omega) (by rw [KF_eq]; omega) fun j => by rw [if_neg (by omega)]
theorem tries_z (z th : Nat → Nat) : fX5_tries (fI z) (fI th) = some (fI (cut 234 z th)) := by
  unfold fX5_tries
  have h := lays_z z th 234 234 0 0 (by omega) (by omega) (by omega) (by omega)
  rw [← li_0] at h
  rw [h, ob1_ev]
  refine congrArg some (congrArg fI (funext fun j => ?_))
  unfold cut
  by_cases g : j < 234
  · rw [if_pos (by omega), if_pos g, show 0 + (j - 0) = j by omega]
  · rw [if_neg (by omega), if_neg g]
