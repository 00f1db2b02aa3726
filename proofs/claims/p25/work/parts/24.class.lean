/-! ===== the State's methods over natural numbers ===== -/
theorem set_0 (a : Nat → Nat) : fX2_setting (fI a) 0 = some (nI (a 16)) := rfl
theorem set_1 (a : Nat → Nat) : fX2_setting (fI a) 1 = some (nI (a 17)) := rfl
theorem set_2 (a : Nat → Nat) : fX2_setting (fI a) 2 = some (nI (a 18)) := rfl
theorem set_3 (a : Nat → Nat) : fX2_setting (fI a) 3 = some (nI (a 19)) := rfl
theorem set_4 (a : Nat → Nat) : fX2_setting (fI a) 4 = some (nI (a 20)) := rfl
theorem set_5 (a : Nat → Nat) : fX2_setting (fI a) 5 = some (nI (a 21)) := rfl
theorem set_6 (a : Nat → Nat) : fX2_setting (fI a) 6 = some (nI (a 22)) := rfl
theorem set_7 (a : Nat → Nat) : fX2_setting (fI a) 7 = some (nI (a 23)) := rfl
theorem rows_c (a : Nat → Nat) : fX2_rowsOfScreen (fI a) = some (nI (2 * a 19)) := by
  unfold fX2_rowsOfScreen
  rw [set_3, ob1_ev, li_2, pk_mul]
theorem within_in {x lo hi : Int32} (h1 : ¬ x < lo) (h2 : ¬ hi < x) : fX4_isWithin x lo hi = some 1 := by
  unfold fX4_isWithin
  rw [if_neg h1, if_neg h2]
theorem within_lo {x lo hi : Int32} (h1 : x < lo) : fX4_isWithin x lo hi = some 0 := by
  unfold fX4_isWithin
  rw [if_pos h1]
theorem within_hi {x lo hi : Int32} (h1 : hi < x) : fX4_isWithin x lo hi = some 0 := by
  unfold fX4_isWithin
  by_cases h : x < lo
  · rw [if_pos h]
  · rw [if_neg h, if_pos h1]
theorem in_eq (x lo hi : Int32) : fX5_in x lo hi = fX4_isWithin x lo hi := rfl
/-- a table's cell read, written; a row taken away -/
theorem tb_read (k n : Nat) (hn : n < 2147483648) (q : Nat → Nat) (p w : Nat) (h : p * k + w < n) : fX3_read (nI k) n (fI q) (nI p) (nI w) = some (nI (q (p * k + w))) := by
  unfold fX3_read
  simp only [nm_ev, pk_mul, nI_add, li_0]
  rw [if_neg (by rw [nI_lt31 (by omega) (by omega)]; omega), if_neg (by rw [nI_le31 (by omega) (by omega)]; omega), chk_nI h hn]
  rfl
theorem tb_write (k n : Nat) (hn : n < 2147483648) (q : Nat → Nat) (p w x : Nat) (h : p * k + w < n) : fX3_write (nI k) n (fI q) (nI p) (nI w) (nI x) = some (fI (uN q (p * k + w) x)) := by
  unfold fX3_write
  simp only [nm_ev, pk_mul, nI_add, li_0]
  rw [if_neg (by rw [nI_lt31 (by omega) (by omega)]; omega), if_neg (by rw [nI_le31 (by omega) (by omega)]; omega), chk_nI h hn, upd_fI]
def rmF (q : Nat → Nat) (p : Nat) : Nat → Nat := fun j => if 4 * p ≤ j ∧ j < 64 then q (j + 4) else q j
theorem rm_c (q : Nat → Nat) (p : Nat) (hp : p ≤ 16) : fX3_removeRow 4 68 (fI q) (nI p) = some (fI (rmF q p)) := by
  unfold fX3_removeRow
  simp only [nm_ev, pk_mul, nI_add, li_0, li_4]
  rw [if_neg (by rw [nI_lt31 (by omega) (by omega)]; omega), if_neg (by rw [nI_lt31 (by omega) (by omega)]; omega)]
  rw [nI_sub (by omega)]
  have c1 : (nI (p * 4 + 4)).toNatClampNeg = p * 4 + 4 := nI_clamp (by omega)
  have c2 : (nI (p * 4)).toNatClampNeg = p * 4 := nI_clamp (by omega)
  have c3 : (nI (68 - (p * 4 + 4))).toNatClampNeg = 68 - (p * 4 + 4) := nI_clamp (by omega)
  rw [nd_ev ⟨nI_pos (by omega), nI_pos (by omega), nI_pos (by omega), by rw [c1, c3]; omega, by rw [c2, c3]; omega⟩]
  rw [c1, c2, c3]
  refine congrArg some (funext fun j => ?_)
  simp only [va_cpy, fI, rmF]
  by_cases h : p * 4 ≤ j ∧ j < p * 4 + (68 - (p * 4 + 4))
  · rw [if_pos h, if_pos (by omega)]
    congr 2
    omega
  · rw [if_neg h, if_neg (by omega)]
def closeA (a : Nat → Nat) : Nat → Nat := uN (uN a 4 (a 4 + 1)) 2 (a 2 - 1)
def lostF (l : Nat → Nat) (m x y w t : Nat) : Nat → Nat := uN (uN (uN (uN l (m * 4) x) (m * 4 + 1) y) (m * 4 + 2) w) (m * 4 + 3) t
theorem lose_c (a q l : Nat → Nat) (p w : Nat) (hp : p ≤ 16) (h2 : 1 ≤ a 2) (h4 : a 4 < 2147483648) : fX2_loseWaiting (fI a) (fI q) (fI l) (nI p) (nI w) = some (fI (closeA a), fI (rmF q p), fI (lostF l (a 4 % 8) (q (p * 4 + 0)) (q (p * 4 + 1)) w (a 0))) := by
  unfold fX2_loseWaiting
  rw [fI_ap, li_8, nI_rem h4 (by omega) (by omega)]
  simp only [nm_ev]
  rw [li_0, li_1, li_2, li_3]
  have m8 : a 4 % 8 < 8 := Nat.mod_lt _ (by omega)
  rw [li_4, tb_read 4 68 (by omega) q p 0 (by omega), ob1_ev, tb_write 4 32 (by omega) l _ 0 _ (by omega), ob1_ev, tb_read 4 68 (by omega) q p 1 (by omega), ob1_ev, tb_write 4 32 (by omega) _ _ 1 _ (by omega), ob1_ev, tb_write 4 32 (by omega) _ _ 2 _ (by omega), ob1_ev, fI_ap, tb_write 4 32 (by omega) _ _ 3 _ (by omega), ob1_ev]
  have hrm := rm_c q p hp
  rw [li_4] at hrm
  rw [hrm, ob1_ev, nI_add, upd_fI, fI_ap, uN_n (show 2 ≠ 4 by omega), nI_sub h2, upd_fI]
  rfl
/-! the relation of the two states -/
def mu (j : Nat) : Nat := if j = 0 then 0 else if j < 16 then j + 8 else j - 15
def RA (a z : Nat → Nat) : Prop := ∀ j, j < 24 → a j = z (mu j)
def RV (v z : Nat → Nat) : Prop := ∀ k, k < 16 → v k = z (26 + k)
def RQ (q z : Nat → Nat) : Prop := ∀ p x, p < z 10 → x < 4 → q (p * 4 + x) = z (42 + 4 * p + x)
def RC (c z : Nat → Nat) : Prop := ∀ j, j < 96 → c j = z (106 + j)
def RM (l z : Nat → Nat) : Prop := ∀ j x, j < 8 → j < z 12 → x < 4 → l ((z 12 - 1 - j) % 8 * 4 + x) = z (202 + 4 * j + x)
def RZ (a v q c l : Nat → Nat) (t : Nat) (z : Nat → Nat) : Prop := RA a z ∧ RV v z ∧ RQ q z ∧ RC c z ∧ RM l z ∧ t = z 25
theorem mu_inj {i j : Nat} (hi : i < 24) (hj : j < 24) (h : mu i = mu j) : i = j := by
  unfold mu at h
  repeat' split at h
  all_goals omega
theorem mu_lt {i : Nat} (hi : i < 24) : mu i < 24 := by
  unfold mu
  repeat' split
  all_goals omega
theorem RA.up {a z : Nat → Nat} (h : RA a z) (k x : Nat) (hk : k < 24) {m : Nat} (hm : mu k = m) : RA (uN a k x) (uN z m x) := by
  subst hm
  intro j hj
  simp only [uN]
  by_cases e : j = k
  · subst e
    rw [if_pos rfl, if_pos rfl]
  · rw [if_neg e, if_neg (fun q => e (mu_inj hj hk q))]
    exact h j hj
theorem RA.ext {a z z' : Nat → Nat} (h : RA a z) (hz : ∀ j, j < 24 → z' j = z j) : RA a z' := fun j hj => (h j hj).trans (hz _ (mu_lt hj)).symm
