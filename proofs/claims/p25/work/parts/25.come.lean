/-! ===== a line comes, on the class's side ===== -/
def appF (q : Nat → Nat) (w p l t : Nat) : Nat → Nat := uN (uN (uN (uN q (w * 4 + 0) p) (w * 4 + 1) l) (w * 4 + 2) t) (w * 4 + 3) 0
theorem next_c (a v q : Nat → Nat) (h2 : a 2 ≤ 16) (h8 : a 8 ≤ 15) (hb : v (a 8) + a 23 * a 9 < 2147483648) : fX2_nextLineWaits (fI a) (fI v) (fI q) = some (fI (uN a 2 (a 2 + 1)), fI (appF q (a 2) (a 9) (a 8) ((v (a 8) + a 23 * a 9) % 256))) := by
  unfold fX2_nextLineWaits
  simp only [nm_ev, fI_ap]
  rw [within_in (by rw [li_0, nI_lt31 (by omega) (by omega)]; omega) (by rw [li_15, nI_lt31 (by omega) (by omega)]; omega), ob1_ev, if_neg (by decide)]
  rw [chk_nI (by omega) (by omega), set_7, ob1_ev, pk_mul, nI_add, pk_andN (by omega) 8 rfl]
  rw [li_0, li_1, li_2, li_3, li_4]
  rw [tb_write 4 68 (by omega) q _ 0 _ (by omega), ob1_ev, tb_write 4 68 (by omega) _ _ 1 _ (by omega), ob1_ev, tb_write 4 68 (by omega) _ _ 2 _ (by omega), ob1_ev, tb_write 4 68 (by omega) _ _ 3 _ (by omega), ob1_ev, nI_add, upd_fI]
  rfl
/-- the first place, from k on, n places at most, that has not gone out; else the place behind them -/
def fno (q : Nat → Nat) : Nat → Nat → Nat
  | k, 0 => k
  | k, n + 1 => if q (k * 4 + 3) = 0 then k else fno q (k + 1) n
theorem first_loop (a q : Nat → Nat) (hq : ∀ j, q j < 4294967296) (h2 : a 2 ≤ 17) (h1 : 1 ≤ a 2) : ∀ (n k m : Nat), k + m = a 2 - 1 → m < n → fX2_firstNotOut_2 n (fI a) (fI q) (nI k) = some (nI (fno q k m)) := by
  intro n
  induction n with
  | zero => intro k m h3 h4; omega
  | succ n ih =>
    intro k m h3 h4
    show fX2_firstNotOut_2_b (fX2_firstNotOut_2 n) (fI a) (fI q) (nI k) = _
    unfold fX2_firstNotOut_2_b
    rw [fI_ap, li_1, nI_sub h1, li_3, li_4, li_0]
    cases m with
    | zero =>
      rw [if_pos (by rw [nI_le31 (by omega) (by omega)]; omega)]
      rfl
    | succ m =>
      have h5 := hq (k * 4 + 3)
      rw [if_neg (by rw [nI_le31 (by omega) (by omega)]; omega), tb_read 4 68 (by omega) q k 3 (by omega), ob1_ev]
      by_cases h : q (k * 4 + 3) = 0
      · rw [if_pos (by rw [h])]
        simp only [fno, if_pos h]
      · rw [if_neg (by rw [nI_eq32 h5 (by omega)]; exact h), nm_ev, nI_add, ih (k + 1) m (by omega) (by omega)]
        simp only [fno, if_neg h]
theorem first_c (a q : Nat → Nat) (hq : ∀ j, q j < 4294967296) (h2 : a 2 ≤ 17) (h1 : 1 ≤ a 2) : fX2_firstNotOut (fI a) (fI q) = some (nI (fno q 0 (a 2 - 1))) := by
  unfold fX2_firstNotOut
  rw [li_0]
  exact first_loop a q hq h2 h1 KF 0 (a 2 - 1) (by omega) (by rw [KF_eq]; omega)
theorem fno_zff (q z : Nat → Nat) : ∀ (m k : Nat), (∀ p, k ≤ p → p < k + m → q (p * 4 + 3) = z (42 + 4 * p + 3)) → fno q k m = match zff z k m with | none => k + m | some j => j := by
  intro m
  induction m with
  | zero => intro k _; rfl
  | succ m ih =>
    intro k h
    have h0 := h k (by omega) (by omega)
    unfold fno zff
    rw [h0]
    by_cases c : z (42 + 4 * k + 3) = 0
    · rw [if_pos c, if_pos c]
    · rw [if_neg c, if_neg c, ih (k + 1) (fun p h1 h2 => h p (by omega) (by omega))]
      cases zff z (k + 1) m with
      | none => show k + 1 + m = k + (m + 1); omega
      | some j => rfl
def advA (a : Nat → Nat) : Nat → Nat := if a 8 + 1 < a 19 then uN (uN a 8 (a 8 + 1)) 10 (a 10 + a 16) else uN (uN (uN a 8 0) 9 (a 9 + 1)) 10 (a 10 + a 16)
theorem adv_c (a : Nat → Nat) (v q l : Nat → Int32) (h8 : a 8 < 100) (h19 : a 19 < 100) : fX2_lineComes_70 (fI a) v q l = some (fI (advA a), q, l) := by
  unfold fX2_lineComes_70
  rw [fI_ap, li_1, nI_add, upd_fI, nm_ev, set_3, ob1_ev, fI_ap, uN_s, uN_n (show 19 ≠ 8 by omega)]
  unfold advA
  by_cases h : a 8 + 1 < a 19
  · rw [if_pos (by rw [nI_lt31 (by omega) (by omega)]; exact h), if_pos h]
    unfold fX2_lineComes_115
    rw [set_0, ob1_ev, fI_ap, nI_add, upd_fI, nm_ev, uN_n (show 10 ≠ 8 by omega), uN_n (show 16 ≠ 8 by omega)]
  · rw [if_neg (by rw [nI_lt31 (by omega) (by omega)]; exact h), if_neg h]
    unfold fX2_lineComes_115
    rw [li_0, upd_fI, nm_ev, fI_ap, nI_add, upd_fI, nm_ev, ← li_0, set_0, ob1_ev, fI_ap, nI_add, upd_fI, nm_ev]
    refine congrArg some (congrArg (fun f => (fI f, q, l)) (funext fun j => ?_))
    simp only [uN]
    repeat' split
    all_goals first | rfl | omega | (subst_vars; rfl) | (subst_vars; omega)
/-! the relation through the parts -/
theorem RA.adv {a z : Nat → Nat} (h : RA a z) : RA (advA a) (zadv z) := by
  have e8 := h 8 (by omega)
  have e19 := h 19 (by omega)
  have e10 := h 10 (by omega)
  have e16 := h 16 (by omega)
  have e9 := h 9 (by omega)
  unfold advA zadv
  rw [e8, e19, e10, e16, e9]
  show RA (if z 16 + 1 < z 4 then uN (uN a 8 (z 16 + 1)) 10 (z 18 + z 1) else uN (uN (uN a 8 0) 9 (z 17 + 1)) 10 (z 18 + z 1)) _
  split
  · exact (h.up 8 _ (by omega) rfl).up 10 _ (by omega) rfl
  · exact ((h.up 8 _ (by omega) rfl).up 9 _ (by omega) rfl).up 10 _ (by omega) rfl
theorem RA.queue {a z : Nat → Nat} (h : RA a z) : RA (uN a 2 (a 2 + 1)) (zqueue z) := by
  have e2 := h 2 (by omega)
  rw [e2]
  refine (h.up 2 _ (by omega) (m := 10) rfl).ext fun j hj => ?_
  show zqueue z j = uN z 10 (z 10 + 1) j
  simp only [zqueue, uN]
  by_cases e : j = 10
  · rw [if_pos e, if_pos e]
  · rw [if_neg e, if_neg (by omega), if_neg (by omega), if_neg (by omega), if_neg (by omega), if_neg e]
theorem RA.lose {a z : Nat → Nat} (h : RA a z) (p w : Nat) : RA (closeA a) (zlose z p w) := by
  have e2 := h 2 (by omega)
  have e4 := h 4 (by omega)
  unfold closeA
  rw [e2, e4]
  refine ((h.up 4 _ (by omega) (m := 12) rfl).up 2 _ (by omega) (m := 10) rfl).ext fun j hj => ?_
  show zlose z p w j = uN (uN z 12 (z 12 + 1)) 10 (z 10 - 1) j
  by_cases e : j = 10
  · subst e
    rw [uN_s, zlose_10]
  · rw [uN_n e]
    by_cases e : j = 12
    · subst e
      rw [uN_s, zlose_12]
    · rw [uN_n e, zlose_lo _ _ _ _ (by omega) (by omega) (by omega) (by omega)]
theorem RQ.app {q z : Nat → Nat} (h : RQ q z) (h10 : z 10 ≤ 15) : RQ (appF q (z 10) (z 17) (z 16) ((z (26 + z 16) + z 8 * z 17) % 256)) (zqueue z) := by
  intro p x hp hx
  have e10 : zqueue z 10 = z 10 + 1 := by simp [zqueue]
  rw [e10] at hp
  simp only [appF, uN, zqueue]
  by_cases e : p = z 10
  · subst e
    rcases (show x = 0 ∨ x = 1 ∨ x = 2 ∨ x = 3 by omega) with rfl | rfl | rfl | rfl
    all_goals repeat' split
    all_goals first | rfl | omega
  · have := h p x (by omega) hx
    rw [← this]
    repeat' split
    all_goals first | rfl | omega
theorem RQ.lose {q z : Nat → Nat} (h : RQ q z) (h10 : z 10 ≤ 16) (p0 w : Nat) (h0 : p0 < z 10) : RQ (rmF q p0) (zlose z p0 w) := by
  intro p x hp hx
  rw [zlose_10] at hp
  rw [zlose_q _ _ _ _ _ hx (by omega) (by omega)]
  simp only [rmF]
  by_cases e : p0 ≤ p
  · rw [if_pos (by omega), if_pos (by omega), ← h (p + 1) x (by omega) hx]
    congr 1
    omega
  · rw [if_neg (by omega), if_neg (by omega)]
    exact h p x (by omega) hx
theorem RM.miss {l z : Nat → Nat} (h : RM l z) (p y w : Nat) : RM (lostF l (z 12 % 8) p y w (z 0)) (zmiss z p y w) := by
  intro j x hj hj2 hx
  have e12 : zmiss z p y w 12 = z 12 + 1 := by simp [zmiss, zmissF]
  rw [e12] at hj2 ⊢
  have m8 : z 12 % 8 < 8 := Nat.mod_lt _ (by omega)
  simp only [lostF, uN, zmiss, zmissF]
  by_cases e : j = 0
  · subst e
    rw [show z 12 + 1 - 1 - 0 = z 12 by omega]
    rcases (show x = 0 ∨ x = 1 ∨ x = 2 ∨ x = 3 by omega) with rfl | rfl | rfl | rfl
    all_goals repeat' split
    all_goals first | rfl | omega
  · have h1 := h (j - 1) x (by omega) (by omega) hx
    have e3 : z 12 + 1 - 1 - j = z 12 - 1 - (j - 1) := by omega
    rw [e3]
    have hne : (z 12 - 1 - (j - 1)) % 8 ≠ z 12 % 8 := by omega
    have m9 : (z 12 - 1 - (j - 1)) % 8 < 8 := Nat.mod_lt _ (by omega)
    generalize (z 12 - 1 - (j - 1)) % 8 = u at hne m9 h1 ⊢
    rw [if_neg (by omega), if_neg (by omega), if_neg (by omega), if_neg (by omega), h1, if_neg (by omega), if_neg (by omega), if_neg (by omega), if_neg (by omega), if_pos (by omega)]
    congr 1
    omega
theorem RM.ext {l z z' : Nat → Nat} (h : RM l z) (h12 : z' 12 = z 12) (hz : ∀ j, 202 ≤ j → z' j = z j) : RM l z' := by
  intro j x hj hj2 hx
  rw [h12] at hj2 ⊢
  rw [hz _ (by omega)]
  exact h j x hj hj2 hx
theorem RM.lose {l z : Nat → Nat} (h : RM l z) (h10 : z 10 ≤ 17) (p w : Nat) : RM (lostF l (z 12 % 8) (z (42 + 4 * p + 0)) (z (42 + 4 * p + 1)) w (z 0)) (zlose z p w) := by
  refine (h.miss (z (42 + 4 * p + 0)) (z (42 + 4 * p + 1)) w).ext ?_ fun j hj => zlose_go z p w j hj h10
  rw [zlose_12]
  simp [zmiss, zmissF]
