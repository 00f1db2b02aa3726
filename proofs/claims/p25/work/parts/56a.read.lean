/-! ===== what the law reads of a state ===== -/
theorem n_le {a b : Nat} (ha : a < 2147483648) (hb : b < 2147483648) (h : b < a) : ¬ nI a ≤ nI b := fun g => by
  have := (nI_le31 ha hb).1 g
  omega
theorem n_lt {a b : Nat} (ha : a < 2147483648) (hb : b < 2147483648) (h : b ≤ a) : ¬ nI a < nI b := fun g => by
  have := (nI_lt31 ha hb).1 g
  omega
theorem n_ne {a b : Nat} (ha : a < 4294967296) (hb : b < 4294967296) (h : a ≠ b) : ¬ nI a = nI b := fun g => h ((nI_eq32 ha hb).1 g)
theorem non_neg : nI NON < 0 := by unfold NON; decide
theorem non_6 : nI NON = -6 := by unfold NON; decide
theorem ne_6 {a : Nat} (h : a < 2147483648) : ¬ nI a = -6 := by
  rw [ln_6]
  exact n_ne (by omega) (by omega) (by omega)
theorem cnt_ev {a z : Nat → Nat} (hA : RA a z) (pl hs : Int32) (k : Nat) (hk : k < 24) : fX4_count (fI a) pl hs (nI k) = some (nI (z (mu k))) := by
  unfold fX4_count
  rw [li_24, li_25, if_neg (n_ne (by omega) (by omega) (by omega)), if_neg (n_ne (by omega) (by omega) (by omega)), li_0, li_23, within_n k 0 23 (by omega) (by omega) (by omega), ob1_ev, if_neg (by decide), chk_nI (by omega) (by omega), fI_ap, hA k hk]
theorem cn_0 {a z : Nat → Nat} (hA : RA a z) (pl hs : Int32) : fX4_count (fI a) pl hs 0 = some (nI (z 0)) := by
  rw [li_0]
  exact cnt_ev hA pl hs 0 (by omega)
theorem cn_1 {a z : Nat → Nat} (hA : RA a z) (pl hs : Int32) : fX4_count (fI a) pl hs 1 = some (nI (z 9)) := by
  rw [li_1]
  exact cnt_ev hA pl hs 1 (by omega)
theorem cn_2 {a z : Nat → Nat} (hA : RA a z) (pl hs : Int32) : fX4_count (fI a) pl hs 2 = some (nI (z 10)) := by
  rw [li_2]
  exact cnt_ev hA pl hs 2 (by omega)
theorem cn_3 {a z : Nat → Nat} (hA : RA a z) (pl hs : Int32) : fX4_count (fI a) pl hs 3 = some (nI (z 11)) := by
  rw [li_3]
  exact cnt_ev hA pl hs 3 (by omega)
theorem cn_4 {a z : Nat → Nat} (hA : RA a z) (pl hs : Int32) : fX4_count (fI a) pl hs 4 = some (nI (z 12)) := by
  rw [li_4]
  exact cnt_ev hA pl hs 4 (by omega)
theorem cn_5 {a z : Nat → Nat} (hA : RA a z) (pl hs : Int32) : fX4_count (fI a) pl hs 5 = some (nI (z 13)) := by
  rw [li_5]
  exact cnt_ev hA pl hs 5 (by omega)
theorem cn_6 {a z : Nat → Nat} (hA : RA a z) (pl hs : Int32) : fX4_count (fI a) pl hs 6 = some (nI (z 14)) := by
  rw [li_6]
  exact cnt_ev hA pl hs 6 (by omega)
theorem cn_7 {a z : Nat → Nat} (hA : RA a z) (pl hs : Int32) : fX4_count (fI a) pl hs 7 = some (nI (z 15)) := by
  rw [li_7]
  exact cnt_ev hA pl hs 7 (by omega)
theorem cn_8 {a z : Nat → Nat} (hA : RA a z) (pl hs : Int32) : fX4_count (fI a) pl hs 8 = some (nI (z 16)) := by
  rw [li_8]
  exact cnt_ev hA pl hs 8 (by omega)
theorem cn_9 {a z : Nat → Nat} (hA : RA a z) (pl hs : Int32) : fX4_count (fI a) pl hs 9 = some (nI (z 17)) := by
  rw [li_9]
  exact cnt_ev hA pl hs 9 (by omega)
theorem cn_12 {a z : Nat → Nat} (hA : RA a z) (pl hs : Int32) : fX4_count (fI a) pl hs 12 = some (nI (z 20)) := by
  rw [li_12]
  exact cnt_ev hA pl hs 12 (by omega)
theorem cn_13 {a z : Nat → Nat} (hA : RA a z) (pl hs : Int32) : fX4_count (fI a) pl hs 13 = some (nI (z 21)) := by
  rw [li_13]
  exact cnt_ev hA pl hs 13 (by omega)
theorem cn_14 {a z : Nat → Nat} (hA : RA a z) (pl hs : Int32) : fX4_count (fI a) pl hs 14 = some (nI (z 22)) := by
  rw [li_14]
  exact cnt_ev hA pl hs 14 (by omega)
theorem cn_15 {a z : Nat → Nat} (hA : RA a z) (pl hs : Int32) : fX4_count (fI a) pl hs 15 = some (nI (z 23)) := by
  rw [li_15]
  exact cnt_ev hA pl hs 15 (by omega)
theorem cn_18 {a z : Nat → Nat} (hA : RA a z) (pl hs : Int32) : fX4_count (fI a) pl hs 18 = some (nI (z 3)) := by
  rw [li_18]
  exact cnt_ev hA pl hs 18 (by omega)
theorem cn_19 {a z : Nat → Nat} (hA : RA a z) (pl hs : Int32) : fX4_count (fI a) pl hs 19 = some (nI (z 4)) := by
  rw [li_19]
  exact cnt_ev hA pl hs 19 (by omega)
theorem cn_25 (a : Nat → Int32) (pl hs : Int32) : fX4_count a pl hs 25 = some hs := by
  unfold fX4_count
  rw [if_neg (by decide), if_pos rfl]
theorem wt_ev {a q z : Nat → Nat} (hA : RA a z) (hQ : RQ q z) (h10 : z 10 ≤ 16) (p x : Nat) (hp : p < z 10) (hx : x < 4) : fX4_waiting (fI a) (fI q) (nI p) (nI x) = some (nI (z (42 + 4 * p + x))) := by
  have h4 := tb_read 4 68 (by omega) q p x (by omega)
  rw [← li_4] at h4
  unfold fX4_waiting
  rw [fI_ap, hA 2 (by omega), show z (mu 2) = z 10 from rfl, if_neg (nI_pos (by omega)), if_pos ((nI_lt31 (by omega) (by omega)).2 hp), li_0, li_3, within_n x 0 3 (by omega) (by omega) (by omega), ob1_ev, if_neg (by decide), h4, ob1_ev, hQ p x hp hx]
theorem wt_0 {a q z : Nat → Nat} (hA : RA a z) (hQ : RQ q z) (h10 : z 10 ≤ 16) (p : Nat) (hp : p < z 10) : fX4_waiting (fI a) (fI q) (nI p) 0 = some (nI (z (42 + 4 * p + 0))) := by
  rw [li_0]
  exact wt_ev hA hQ h10 p 0 hp (by omega)
theorem wt_1 {a q z : Nat → Nat} (hA : RA a z) (hQ : RQ q z) (h10 : z 10 ≤ 16) (p : Nat) (hp : p < z 10) : fX4_waiting (fI a) (fI q) (nI p) 1 = some (nI (z (42 + 4 * p + 1))) := by
  rw [li_1]
  exact wt_ev hA hQ h10 p 1 hp (by omega)
theorem wt_2 {a q z : Nat → Nat} (hA : RA a z) (hQ : RQ q z) (h10 : z 10 ≤ 16) (p : Nat) (hp : p < z 10) : fX4_waiting (fI a) (fI q) (nI p) 2 = some (nI (z (42 + 4 * p + 2))) := by
  rw [li_2]
  exact wt_ev hA hQ h10 p 2 hp (by omega)
theorem wt_3 {a q z : Nat → Nat} (hA : RA a z) (hQ : RQ q z) (h10 : z 10 ≤ 16) (p : Nat) (hp : p < z 10) : fX4_waiting (fI a) (fI q) (nI p) 3 = some (nI (z (42 + 4 * p + 3))) := by
  rw [li_3]
  exact wt_ev hA hQ h10 p 3 hp (by omega)
theorem wt_no {a q z : Nat → Nat} (hA : RA a z) (h10 : z 10 ≤ 16) (x : Int32) : fX4_waiting (fI a) (fI q) (nI (z 10)) x = some (-1) := by
  unfold fX4_waiting
  rw [fI_ap, hA 2 (by omega), show z (mu 2) = z 10 from rfl, if_neg (nI_pos (by omega)), if_neg (n_lt (by omega) (by omega) (Nat.le_refl _))]
theorem rw_ev {a c z : Nat → Nat} (hA : RA a z) (hC : RC c z) (h4 : z 4 ≤ 16) (r x : Nat) (hr : r < 2 * z 4) (hx : x < 3) : fX4_row (fI a) (fI c) (nI r) (nI x) = some (nI (z (106 + 3 * r + x))) := by
  have h3 := tb_read 3 96 (by omega) c r x (by omega)
  rw [← li_3] at h3
  unfold fX4_row
  rw [rows_c, ob1_ev, hA 19 (by omega), show z (mu 19) = z 4 from rfl, if_neg (nI_pos (by omega)), if_pos ((nI_lt31 (by omega) (by omega)).2 hr), li_0, li_2, within_n x 0 2 (by omega) (by omega) (by omega), ob1_ev, if_neg (by decide), h3, ob1_ev, hC (r * 3 + x) (by omega), show 106 + (r * 3 + x) = 106 + 3 * r + x by omega]
theorem rw_0 {a c z : Nat → Nat} (hA : RA a z) (hC : RC c z) (h4 : z 4 ≤ 16) (r : Nat) (hr : r < 2 * z 4) : fX4_row (fI a) (fI c) (nI r) 0 = some (nI (z (106 + 3 * r + 0))) := by
  rw [li_0]
  exact rw_ev hA hC h4 r 0 hr (by omega)
theorem rw_1 {a c z : Nat → Nat} (hA : RA a z) (hC : RC c z) (h4 : z 4 ≤ 16) (r : Nat) (hr : r < 2 * z 4) : fX4_row (fI a) (fI c) (nI r) 1 = some (nI (z (106 + 3 * r + 1))) := by
  rw [li_1]
  exact rw_ev hA hC h4 r 1 hr (by omega)
theorem rw_2 {a c z : Nat → Nat} (hA : RA a z) (hC : RC c z) (h4 : z 4 ≤ 16) (r : Nat) (hr : r < 2 * z 4) : fX4_row (fI a) (fI c) (nI r) 2 = some (nI (z (106 + 3 * r + 2))) := by
  rw [li_2]
  exact rw_ev hA hC h4 r 2 hr (by omega)
theorem ms_ev {a l z : Nat → Nat} (hA : RA a z) (hL : RM l z) (h12 : z 12 < 1000000000) (h24 : z 24 = if z 12 < 8 then z 12 else 8) (j x : Nat) (hj : j < z 24) (hx : x < 4) : fX4_ofMissing (fI a) (fI l) (nI j) (nI x) = some (nI (z (202 + 4 * j + x))) := by
  have e24 : minN (z 12) 8 = z 24 := h24.symm
  have b24 : z 24 ≤ 8 ∧ z 24 ≤ z 12 := by rw [h24]; split <;> omega
  have m8 : (z 12 - 1 - j) % 8 < 8 := Nat.mod_lt _ (by omega)
  have h4 := tb_read 4 32 (by omega) l ((z 12 - 1 - j) % 8) x (by omega)
  rw [← li_4] at h4
  unfold fX4_ofMissing
  rw [fI_ap, hA 4 (by omega), show z (mu 4) = z 12 from rfl, li_8, min_ev (by omega) (by omega), e24, if_neg (nI_pos (by omega)), if_pos ((nI_lt31 (by omega) (by omega)).2 hj), li_0, li_3, within_n x 0 3 (by omega) (by omega) (by omega), ob1_ev, if_neg (by decide), li_1, nI_sub (show 1 ≤ z 12 by omega), nI_sub (show j ≤ z 12 - 1 by omega), nI_rem (by omega) (by omega) (by omega), h4, ob1_ev, hL j x (by omega) (by omega) hx]
theorem ms_0 {a l z : Nat → Nat} (hA : RA a z) (hL : RM l z) (h12 : z 12 < 1000000000) (h24 : z 24 = if z 12 < 8 then z 12 else 8) (j : Nat) (hj : j < z 24) : fX4_ofMissing (fI a) (fI l) (nI j) 0 = some (nI (z (202 + 4 * j + 0))) := by
  rw [li_0]
  exact ms_ev hA hL h12 h24 j 0 hj (by omega)
theorem ms_1 {a l z : Nat → Nat} (hA : RA a z) (hL : RM l z) (h12 : z 12 < 1000000000) (h24 : z 24 = if z 12 < 8 then z 12 else 8) (j : Nat) (hj : j < z 24) : fX4_ofMissing (fI a) (fI l) (nI j) 1 = some (nI (z (202 + 4 * j + 1))) := by
  rw [li_1]
  exact ms_ev hA hL h12 h24 j 1 hj (by omega)
theorem ms_2 {a l z : Nat → Nat} (hA : RA a z) (hL : RM l z) (h12 : z 12 < 1000000000) (h24 : z 24 = if z 12 < 8 then z 12 else 8) (j : Nat) (hj : j < z 24) : fX4_ofMissing (fI a) (fI l) (nI j) 2 = some (nI (z (202 + 4 * j + 2))) := by
  rw [li_2]
  exact ms_ev hA hL h12 h24 j 2 hj (by omega)
theorem ms_3 {a l z : Nat → Nat} (hA : RA a z) (hL : RM l z) (h12 : z 12 < 1000000000) (h24 : z 24 = if z 12 < 8 then z 12 else 8) (j : Nat) (hj : j < z 24) : fX4_ofMissing (fI a) (fI l) (nI j) 3 = some (nI (z (202 + 4 * j + 3))) := by
  rw [li_3]
  exact ms_ev hA hL h12 h24 j 3 hj (by omega)
theorem ms_no {a z : Nat → Nat} (l : Nat → Int32) (hA : RA a z) (h12 : z 12 < 1000000000) (h24 : z 24 = if z 12 < 8 then z 12 else 8) (x : Int32) : fX4_ofMissing (fI a) l (nI (z 24)) x = some (-1) := by
  have e24 : minN (z 12) 8 = z 24 := h24.symm
  have b24 : z 24 ≤ 8 ∧ z 24 ≤ z 12 := by rw [h24]; split <;> omega
  unfold fX4_ofMissing
  rw [fI_ap, hA 4 (by omega), show z (mu 4) = z 12 from rfl, li_8, min_ev (by omega) (by omega), e24, if_neg (nI_pos (by omega)), if_neg (n_lt (by omega) (by omega) (Nat.le_refl _))]
/-- how many of the first n rows stand ahead of an empty one -/
def shc (z : Nat → Nat) : Nat → Nat
  | 0 => 0
  | n + 1 => if jbare z (n + 1) = true then shc z n else shc z n + 1
theorem jb_s (z : Nat → Nat) (n : Nat) : jbare z (n + 1) = (jbare z n || decide (z (106 + 3 * n + 1) = NON)) := rfl
theorem shc_full (z : Nat → Nat) : ∀ n, jbare z n = false → shc z n = n := by
  intro n
  induction n with
  | zero => intro _; rfl
  | succ n ih =>
    intro h
    have h0 : jbare z n = false := by
      rw [jb_s] at h
      exact (Bool.or_eq_false_iff.mp h).1
    show (if jbare z (n + 1) = true then shc z n else shc z n + 1) = n + 1
    rw [h, if_neg (by decide), ih h0]
theorem shc_stop (z : Nat → Nat) (r : Nat) (h : jbare z (r + 1) = true) : ∀ m, shc z (r + m) = shc z r := by
  intro m
  induction m with
  | zero => rfl
  | succ m ih =>
    show (if jbare z (r + m + 1) = true then shc z (r + m) else shc z (r + m) + 1) = _
    rw [if_pos (jbare_mono z (r + m + 1) (r + 1) (by omega) h), ih]
theorem shc_le (z : Nat → Nat) : ∀ n, shc z n ≤ n := by
  intro n
  induction n with
  | zero => exact Nat.le_refl 0
  | succ n ih =>
    show (if jbare z (n + 1) = true then shc z n else shc z n + 1) ≤ n + 1
    split <;> omega
theorem sh_loop (a c z : Nat → Nat) (hz : ∀ k, z k < 4294967296) (hC : RC c z) (h4 : z 4 ≤ 16) : ∀ (n k : Nat), k ≤ 2 * z 4 → 2 * z 4 < n + k → jbare z k = false → fX4_shown_10 n (fI a) (fI c) (nI (2 * z 4)) (nI k) = some (nI (shc z (2 * z 4))) := by
  intro n
  induction n with
  | zero => intro k h1 h2; omega
  | succ n ih =>
    intro k h1 h2 hb
    show fX4_shown_10_b (fX4_shown_10 n) (fI a) (fI c) (nI (2 * z 4)) (nI k) = _
    unfold fX4_shown_10_b
    have cl := nI_le31 (a := 2 * z 4) (b := k) (by omega) (by omega)
    by_cases hk : 2 * z 4 ≤ k
    · have ek : k = 2 * z 4 := by omega
      rw [if_pos (cl.2 hk), ← ek, shc_full z k hb]
    · have h3 := tb_read 3 96 (by omega) c k 1 (by omega)
      rw [← li_3, ← li_1] at h3
      rw [if_neg (fun g => hk (cl.1 g)), h3, ob1_ev, hC (k * 3 + 1) (by omega), show 106 + (k * 3 + 1) = 106 + 3 * k + 1 by omega, nm_ev]
      by_cases he : z (106 + 3 * k + 1) = NON
      · rw [if_pos (by rw [he]; exact non_6)]
        have hb1 : jbare z (k + 1) = true := by
          rw [jb_s, hb, he]
          simp
        have := shc_stop z k hb1 (2 * z 4 - k)
        rw [show k + (2 * z 4 - k) = 2 * z 4 by omega, shc_full z k hb] at this
        rw [this]
      · rw [if_neg (by rw [← non_6]; exact n_ne (hz _) (by unfold NON; omega) he), nI_1]
        refine ih (k + 1) (by omega) (by omega) ?_
        rw [jb_s, hb]
        simp [he]
theorem sh_ev {a c z : Nat → Nat} (hA : RA a z) (hz : ∀ k, z k < 4294967296) (hC : RC c z) (h4 : z 4 ≤ 16) : fX4_shown (fI a) (fI c) = some (nI (shc z (2 * z 4))) := by
  unfold fX4_shown
  rw [rows_c, ob1_ev, hA 19 (by omega), show z (mu 19) = z 4 from rfl]
  exact sh_loop a c z hz hC h4 KF 0 (by omega) (by rw [KF_eq]; omega) rfl
