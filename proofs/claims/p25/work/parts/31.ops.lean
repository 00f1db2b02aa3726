/-! ===== the changes: both sides ===== -/
theorem in_nI (x : Int32) (lo hi : Nat) (hlh : lo ≤ hi) (hh : hi < 1000000000) : fX4_isWithin x (nI lo) (nI hi) = some 0 ∨ ∃ n, x = nI n ∧ lo ≤ n ∧ n ≤ hi ∧ fX4_isWithin x (nI lo) (nI hi) = some 1 := by
  rcases pk_ix x (n := hi + 1) (by omega) with h | h | ⟨j, h1, rfl⟩
  · refine Or.inl (within_lo ?_)
    have := nI_pos' (n := lo) (by omega)
    rw [Int32.lt_iff_toInt_lt] at h ⊢
    rw [Int32.le_iff_toInt_le] at this
    omega
  · refine Or.inl (within_hi ?_)
    have := nI_lt (a := hi) (b := hi + 1) (by omega) (by omega)
    rw [Int32.lt_iff_toInt_lt] at this ⊢
    rw [Int32.le_iff_toInt_le] at h
    omega
  · by_cases h2 : j < lo
    · exact Or.inl (within_lo ((nI_lt31 (by omega) (by omega)).2 h2))
    · exact Or.inr ⟨j, rfl, by omega, by omega, within_in (fun g => h2 ((nI_lt31 (by omega) (by omega)).1 g)) (fun g => by have := (nI_lt31 (by omega) (by omega)).1 g; omega)⟩
theorem neg_lt0 {n : Nat} (h : n < 2147483648) : 0 ≤ nI n := nI_pos' (by omega)
def loS (s : Nat) : Nat := if s = 0 then 2 else if s = 1 then 1 else if s = 2 then 1 else if s = 3 then 2 else 0
def hiS (s : Nat) : Nat := if s = 0 then 99 else if s = 1 then 99 else if s = 2 then 16 else if s = 3 then 16 else if s = 4 then 1 else if s = 5 then 1 else 255
theorem s8 {s : Nat} (h : s < 8) : s = 0 ∨ s = 1 ∨ s = 2 ∨ s = 3 ∨ s = 4 ∨ s = 5 ∨ s = 6 ∨ s = 7 := by omega
theorem within_01 (x lo hi : Int32) : fX4_isWithin x lo hi = some 0 ∨ fX4_isWithin x lo hi = some 1 := by
  unfold fX4_isWithin
  split
  · exact Or.inl rfl
  · split
    · exact Or.inl rfl
    · exact Or.inr rfl
theorem within_nd (x lo hi : Int32) : (ob1 (fX5_in x lo hi) fun r => nd (r = 0 ∨ r = 1) <| some r) = fX4_isWithin x lo hi := by
  rw [in_eq]
  rcases within_01 x lo hi with h | h
  · rw [h]; rfl
  · rw [h]; rfl
theorem isFor_ev (s : Nat) (hs : s < 8) (x : Int32) : fX5_isFor (nI s) x = fX4_isWithin x (nI (loS s)) (nI (hiS s)) := by
  unfold fX5_isFor
  rcases s8 hs with rfl | rfl | rfl | rfl | rfl | rfl | rfl | rfl
  · rw [if_pos (by decide), within_nd]; rfl
  · rw [if_neg (by decide), if_pos (by decide), within_nd]; rfl
  · rw [if_neg (by decide), if_neg (by decide), if_pos (by decide), within_nd]; rfl
  · rw [if_neg (by decide), if_neg (by decide), if_neg (by decide), if_pos (by decide), within_nd]; rfl
  · rw [if_neg (by decide), if_neg (by decide), if_neg (by decide), if_neg (by decide), if_pos (by decide), within_nd]; rfl
  · rw [if_neg (by decide), if_neg (by decide), if_neg (by decide), if_neg (by decide), if_neg (by decide), if_pos (by decide), within_nd]; rfl
  · rw [if_neg (by decide), if_neg (by decide), if_neg (by decide), if_neg (by decide), if_neg (by decide), if_neg (by decide), within_nd]; rfl
  · rw [if_neg (by decide), if_neg (by decide), if_neg (by decide), if_neg (by decide), if_neg (by decide), if_neg (by decide), within_nd]; rfl
theorem sfL_ev (s : Nat) (hs : s < 8) : sfLeast s = nI (loS s) := by
  rcases s8 hs with rfl | rfl | rfl | rfl | rfl | rfl | rfl | rfl <;> rfl
theorem sfM_ev (s : Nat) (hs : s < 8) : sfMost s = nI (hiS s) := by
  rcases s8 hs with rfl | rfl | rfl | rfl | rfl | rfl | rfl | rfl <;> rfl
theorem loS_hiS (s : Nat) : loS s ≤ hiS s ∧ hiS s ≤ 255 := by
  unfold loS hiS
  repeat' split
  all_goals omega
/-- a setting is changed: refused alike, or done alike -/
def setOK (z : Nat → Nat) (s v : Nat) : Prop := s < 8 ∧ loS s ≤ v ∧ v ≤ hiS s ∧ (s = 3 → z 0 = 0) ∧ (s = 2 → z 10 ≤ v)
theorem set62_c (a : Nat → Nat) (s v : Nat) (hs : s < 8) : fX2_changeSetting_62 (fI a) (nI s) (nI v) = some (nI (a (16 + s)), fI (uN a (16 + s) v)) := by
  unfold fX2_changeSetting_62
  rw [li_16, nI_add, chk_nI (by omega) (by omega), nm_ev, chk_nI (by omega) (by omega), nm_ev, upd_fI, fI_ap]
theorem changes_z (z : Nat → Nat) (k v : Nat) (hk : k < 234) : fX5_changes (fI z) (nI k) (nI v) = some (nI (z k), fI (uN z k v)) := by
  unfold fX5_changes
  rw [chk_nI hk (by omega), nm_ev, chk_nI hk (by omega), nm_ev, upd_fI, fI_ap]
theorem set54_z (z : Nat → Nat) (past : Nat → Int32) (kept : Int32) (s v : Nat) (hs : s < 8) : fX5_set_54 (fI z) past kept (nI s) (nI v) = ob2 (fX5_records (fI z) past kept) fun p k => some (nI (z (1 + s)), fI (uN z (1 + s) v), p, k) := by
  unfold fX5_set_54
  rw [li_1, nI_add, changes_z z (1 + s) v (by omega)]
  rfl
theorem set_op (x1 x2 : Int32) (a z : Nat → Nat) (hA : RA a z) (hz : ∀ k, z k < 4294967296) (h10 : z 10 ≤ 17) : (∃ r, r < 0 ∧ fX2_changeSetting (fI a) x1 x2 = some (r, fI a) ∧ ∀ past kept, fX5_set (fI z) past kept x1 x2 = some (r, fI z, past, kept)) ∨ ∃ s v, setOK z s v ∧ x1 = nI s ∧ x2 = nI v ∧ fX2_changeSetting (fI a) x1 x2 = some (nI (z (1 + s)), fI (uN a (16 + s) v)) ∧ ∀ past kept, fX5_set (fI z) past kept x1 x2 = ob2 (fX5_records (fI z) past kept) fun p k => some (nI (z (1 + s)), fI (uN z (1 + s) v), p, k) := by
  unfold fX2_changeSetting fX5_set
  rw [in_eq, li_0, li_7]
  rcases in_nI x1 0 7 (by omega) (by omega) with h | ⟨s, rfl, -, hs, h⟩
  · rw [h]
    exact Or.inl ⟨-2, by decide, rfl, fun _ _ => rfl⟩
  · rw [h]
    have hs8 : s < 8 := by omega
    have hl := loS_hiS s
    simp only [ob1_ev]
    rw [if_neg (by decide), chk_nI hs8 (by omega), chk_nI hs8 (by omega), isFor_ev s hs8, sfL_ev s hs8, sfM_ev s hs8]
    have e0 : a 0 = z 0 := hA 0 (by omega)
    have e2 : a 2 = z 10 := hA 2 (by omega)
    have es : a (16 + s) = z (1 + s) := by rw [hA (16 + s) (by omega)]; congr 1; unfold mu; rw [if_neg (by omega), if_neg (by omega)]; omega
    rcases in_nI x2 (loS s) (hiS s) hl.1 (by omega) with h2 | ⟨v, rfl, v1, v2, h2⟩
    · rw [h2]
      exact Or.inl ⟨-2, by decide, rfl, fun _ _ => rfl⟩
    · rw [h2]
      simp only [ob1_ev]
      have c3 := nI_eq32 (a := s) (b := 3) (by omega) (by omega)
      have c2 := nI_eq32 (a := s) (b := 2) (by omega) (by omega)
      have c0 := nI_eq32 (a := z 0) (b := 0) (hz 0) (by omega)
      have cv := nI_le31 (a := z 10) (b := v) (by omega) (by omega)
      rw [if_neg (by decide), fI_ap a 0, fI_ap a 2, fI_ap z 0, fI_ap z 10, e0, e2, li_3, li_2, set62_c a s v hs8, es]
      by_cases h3 : s = 3
      · have h32 : ¬ s = 2 := by omega
        rw [if_pos (c3.2 h3), if_neg (fun g => h32 (c2.1 g))]
        by_cases h0 : z 0 = 0
        · rw [if_pos (c0.2 h0)]
          refine Or.inr ⟨s, v, ⟨hs8, v1, v2, fun _ => h0, fun g => by omega⟩, rfl, rfl, rfl, fun past kept => ?_⟩
          rw [if_neg (by decide), if_neg (by decide), if_pos (c3.2 h3), if_pos (c0.2 h0), if_neg (fun g => h32 (c2.1 g)), set54_z z past kept s v hs8]
        · rw [if_neg (fun g => h0 (c0.1 g))]
          refine Or.inl ⟨-5, by decide, rfl, fun past kept => ?_⟩
          rw [if_neg (by decide), if_neg (by decide), if_pos (c3.2 h3), if_neg (fun g => h0 (c0.1 g))]
      · rw [if_neg (fun g => h3 (c3.1 g))]
        by_cases h2' : s = 2
        · rw [if_pos (c2.2 h2')]
          by_cases hv : z 10 ≤ v
          · rw [if_pos (cv.2 hv)]
            refine Or.inr ⟨s, v, ⟨hs8, v1, v2, fun g => by omega, fun _ => hv⟩, rfl, rfl, rfl, fun past kept => ?_⟩
            rw [if_neg (by decide), if_neg (by decide), if_neg (fun g => h3 (c3.1 g)), if_pos (c2.2 h2'), if_pos (cv.2 hv), set54_z z past kept s v hs8]
          · rw [if_neg (fun g => hv (cv.1 g))]
            refine Or.inl ⟨-5, by decide, rfl, fun past kept => ?_⟩
            rw [if_neg (by decide), if_neg (by decide), if_neg (fun g => h3 (c3.1 g)), if_pos (c2.2 h2'), if_neg (fun g => hv (cv.1 g))]
        · rw [if_neg (fun g => h2' (c2.1 g))]
          refine Or.inr ⟨s, v, ⟨hs8, v1, v2, fun g => absurd g h3, fun g => absurd g h2'⟩, rfl, rfl, rfl, fun past kept => ?_⟩
          rw [if_neg (by decide), if_neg (by decide), if_neg (fun g => h3 (c3.1 g)), if_neg (fun g => h2' (c2.1 g)), set54_z z past kept s v hs8]
/-- a value is changed -/
theorem mayTell_ev (x1 x2 : Int32) : (∃ r, r < 0 ∧ fX5_mayTell x1 x2 = some r ∧ ∀ v : Nat → Int32, fX2_changeValue v x1 x2 = some (r, v)) ∨ ∃ k y, k < 16 ∧ y ≤ 255 ∧ x1 = nI k ∧ x2 = nI y ∧ fX5_mayTell x1 x2 = some 0 ∧ ∀ v : Nat → Nat, fX2_changeValue (fI v) x1 x2 = some (nI (v k), fI (uN v k y)) := by
  unfold fX5_mayTell fX2_changeValue
  rw [in_eq, in_eq, li_0, li_15, li_255]
  rcases in_nI x1 0 15 (by omega) (by omega) with h | ⟨k, rfl, -, hk, h⟩
  · rw [h]
    exact Or.inl ⟨-1, by decide, rfl, fun _ => rfl⟩
  · rw [h]
    simp only [ob1_ev]
    rcases in_nI x2 0 255 (by omega) (by omega) with h2 | ⟨y, rfl, -, hy, h2⟩
    · rw [h2]
      exact Or.inl ⟨-2, by decide, rfl, fun _ => rfl⟩
    · rw [h2]
      refine Or.inr ⟨k, y, by omega, by omega, rfl, rfl, rfl, fun v => ?_⟩
      rw [if_neg (by decide), ob1_ev, if_neg (by decide), chk_nI (by omega) (by omega), nm_ev, chk_nI (by omega) (by omega), nm_ev, upd_fI, fI_ap]
theorem value_op (x1 x2 : Int32) (v z : Nat → Nat) (hV : RV v z) : (∃ r, r < 0 ∧ fX2_changeValue (fI v) x1 x2 = some (r, fI v) ∧ ∀ past kept, fX5_value (fI z) past kept x1 x2 = some (r, fI z, past, kept)) ∨ ∃ k y, k < 16 ∧ y ≤ 255 ∧ x1 = nI k ∧ x2 = nI y ∧ fX2_changeValue (fI v) x1 x2 = some (nI (z (26 + k)), fI (uN v k y)) ∧ ∀ past kept, fX5_value (fI z) past kept x1 x2 = ob2 (fX5_records (fI z) past kept) fun p q => some (nI (z (26 + k)), fI (uN z (26 + k) y), p, q) := by
  rcases mayTell_ev x1 x2 with ⟨r, h0, h1, h2⟩ | ⟨k, y, hk, hy, rfl, rfl, h1, h2⟩
  · refine Or.inl ⟨r, h0, h2 _, fun past kept => ?_⟩
    unfold fX5_value
    rw [h1, ob1_ev, if_neg (fun g => by rw [g] at h0; exact absurd h0 (by decide))]
  · refine Or.inr ⟨k, y, hk, hy, rfl, rfl, by rw [h2 v, hV k hk], fun past kept => ?_⟩
    unfold fX5_value
    rw [h1, ob1_ev, if_pos rfl, li_26, nI_add, changes_z z (26 + k) y (by omega)]
    rfl
/-- a clock slips -/
theorem slips_z (z : Nat → Nat) (k t : Nat) (hk : k < 2) : fX5_slips (fI z) (nI k) (nI t) = some (nI (z (18 + k) + t), fI (uN z (18 + k) (z (18 + k) + t))) := by
  unfold fX5_slips
  rw [li_18, nI_add, nm_ev, chk_nI (by omega) (by omega), chk_nI (by omega) (by omega), nm_ev, fI_ap, nI_add, upd_fI, chk_nI (by omega) (by omega), fI_ap, uN_s]
theorem maySlip_ev (x1 x2 : Int32) : (∃ r, r < 0 ∧ fX5_maySlip x1 x2 = some r ∧ ∀ a : Nat → Int32, fX2_delayClock a x1 x2 = some (r, a)) ∨ ∃ k t, k < 2 ∧ 1 ≤ t ∧ t ≤ 99 ∧ x1 = nI k ∧ x2 = nI t ∧ fX5_maySlip x1 x2 = some 0 ∧ ∀ a : Nat → Nat, fX2_delayClock (fI a) x1 x2 = some (nI (a (10 + k) + t), fI (uN a (10 + k) (a (10 + k) + t))) := by
  unfold fX5_maySlip fX2_delayClock
  rw [in_eq, in_eq, li_0, li_1, li_99]
  rcases in_nI x1 0 1 (by omega) (by omega) with h | ⟨k, rfl, -, hk, h⟩
  · rw [h]
    exact Or.inl ⟨-2, by decide, rfl, fun _ => rfl⟩
  · rw [h]
    simp only [ob1_ev]
    rcases in_nI x2 1 99 (by omega) (by omega) with h2 | ⟨t, rfl, ht, ht2, h2⟩
    · rw [h2]
      exact Or.inl ⟨-2, by decide, rfl, fun _ => rfl⟩
    · rw [h2]
      refine Or.inr ⟨k, t, by omega, ht, ht2, rfl, rfl, rfl, fun a => ?_⟩
      rw [if_neg (by decide), ob1_ev, if_neg (by decide)]
      rcases (show k = 0 ∨ k = 1 by omega) with rfl | rfl
      · rw [if_pos rfl, nm_ev, fI_ap, nI_add, upd_fI, fI_ap, uN_s]
      · rw [if_neg (by decide), nm_ev, fI_ap, nI_add, upd_fI, fI_ap, uN_s]
theorem slip_op (x1 x2 : Int32) (a z : Nat → Nat) (hA : RA a z) : (∃ r, r < 0 ∧ fX2_delayClock (fI a) x1 x2 = some (r, fI a) ∧ ∀ past kept, fX5_slip (fI z) past kept x1 x2 = some (r, fI z, past, kept)) ∨ ∃ k t, k < 2 ∧ 1 ≤ t ∧ t ≤ 99 ∧ x1 = nI k ∧ x2 = nI t ∧ fX2_delayClock (fI a) x1 x2 = some (nI (z (18 + k) + t), fI (uN a (10 + k) (z (18 + k) + t))) ∧ ∀ past kept, fX5_slip (fI z) past kept x1 x2 = ob2 (fX5_records (fI z) past kept) fun p q => some (nI (z (18 + k) + t), fI (uN z (18 + k) (z (18 + k) + t)), p, q) := by
  rcases maySlip_ev x1 x2 with ⟨r, h0, h1, h2⟩ | ⟨k, t, hk, ht, ht2, rfl, rfl, h1, h2⟩
  · refine Or.inl ⟨r, h0, h2 _, fun past kept => ?_⟩
    unfold fX5_slip
    rw [h1, ob1_ev, if_neg (fun g => by rw [g] at h0; exact absurd h0 (by decide))]
  · have e : a (10 + k) = z (18 + k) := by rw [hA (10 + k) (by omega)]; congr 1; unfold mu; rw [if_neg (by omega), if_pos (by omega)]; omega
    refine Or.inr ⟨k, t, hk, ht, ht2, rfl, rfl, by rw [h2 a, e], fun past kept => ?_⟩
    unfold fX5_slip
    rw [h1, ob1_ev, if_pos rfl, slips_z z k t hk]
    rfl
/-- ticks pass -/
theorem mayPass_ev (z : Nat → Nat) (x : Int32) (h0 : z 0 ≤ 200000) : (∃ r, r < 0 ∧ fX5_mayPass (fI z) x = some r ∧ ∀ (a v q c l : Nat → Int32) (t : Int32), a 0 = nI (z 0) → fX2_passTicks a v q c l t x 99999 = some (r, a, q, c, l, t)) ∨ ∃ n, 1 ≤ n ∧ n ≤ 999 ∧ x = nI n ∧ z 0 + n ≤ 99999 ∧ fX5_mayPass (fI z) x = some 0 := by
  unfold fX5_mayPass fX2_passTicks
  rw [in_eq, li_1, li_999]
  rcases in_nI x 1 999 (by omega) (by omega) with h | ⟨n, rfl, h1, h2, h⟩
  · rw [h]
    exact Or.inl ⟨-2, by decide, rfl, fun _ _ _ _ _ _ _ => rfl⟩
  · rw [h]
    simp only [ob1_ev]
    rw [if_neg (by decide), fI_ap, nI_add, li_99999]
    have cn := nI_le31 (a := z 0 + n) (b := 99999) (by omega) (by omega)
    by_cases hn : z 0 + n ≤ 99999
    · rw [if_pos (cn.2 hn)]
      exact Or.inr ⟨n, h1, h2, rfl, hn, rfl⟩
    · rw [if_neg (fun g => hn (cn.1 g))]
      refine Or.inl ⟨-4, by decide, rfl, fun a v q c l t ha => ?_⟩
      rw [if_neg (by decide), ha, nI_sub (by omega), if_neg (fun g => by have := (nI_le31 (by omega) (by omega)).1 g; omega)]
theorem passTicks_ev {B : Nat} (hB : 200000 ≤ B) (hB2 : B < 2000000000) (n L T : Nat) (a v q c l : Nat → Nat) (t : Nat) (z : Nat → Nat) (hR : RZ a v q c l t z) (hq : ∀ j, q j < 4294967296) (hI : ZI T B 0 0 0 z) (hT : T + n ≤ 150001) (h1 : 1 ≤ n) (h2 : n ≤ 999) (hL : z 0 + n ≤ L) (hL2 : L < 2147483648) : ∃ a' q' c' l' t', fX2_passTicks (fI a) (fI v) (fI q) (fI c) (fI l) (nI t) (nI n) (nI L) = some (nI (zpass z n 0), fI a', fI q', fI c', fI l', nI t') ∧ RZ a' v q' c' l' t' (zpass z n) ∧ ∀ j, q' j < 4294967296 := by
  unfold fX2_passTicks
  rw [li_1, li_999, within_in (fun g => by have := (nI_lt31 (by omega) (by omega)).1 g; omega) (fun g => by have := (nI_lt31 (by omega) (by omega)).1 g; omega), ob1_ev, if_neg (by decide), fI_ap, hR.1 0 (by omega), show z (mu 0) = z 0 from rfl, nI_sub (by omega), if_pos ((nI_le31 (by omega) (by omega)).2 (by omega))]
  have := passc_loop hB hB2 n (by omega) KF n T a v q c l t z hR hq hI hT (Nat.le_refl _) (by rw [KF_eq]; omega)
  rw [Nat.sub_self] at this
  exact this
theorem ztick_0 (z : Nat → Nat) {T B : Nat} (h : ZI T B 0 0 0 z) (hT : T ≤ 150000) (hB : 200000 ≤ B) : ztick z 0 = z 0 + 1 := by
  rw [ztick_go]
  unfold zend2
  rw [uN_n (by omega), uN_s, (h.go hT hB).2.1]
theorem zpass_0 {B : Nat} (hB : 200000 ≤ B) : ∀ (n T : Nat) (z : Nat → Nat), ZI T B 0 0 0 z → T + n ≤ 150001 → zpass z n 0 = z 0 + n := by
  intro n
  induction n with
  | zero => intro T z _ _; rfl
  | succ n ih =>
    intro T z h hT
    show zpass (ztick z) n 0 = _
    rw [ih (T + 1) _ (h.tick (by omega) hB) (by omega), ztick_0 z h (by omega) hB]
    omega
theorem pass_op {B : Nat} (hB : 200000 ≤ B) (hB2 : B < 2000000000) (x : Int32) (T : Nat) (a v q c l : Nat → Nat) (t : Nat) (z : Nat → Nat) (hR : RZ a v q c l t z) (hq : ∀ j, q j < 4294967296) (hI : ZI T B 0 0 0 z) (hT : T ≤ 99999) : (∃ r, r < 0 ∧ fX2_passTicks (fI a) (fI v) (fI q) (fI c) (fI l) (nI t) x 99999 = some (r, fI a, fI q, fI c, fI l, nI t) ∧ ∀ past kept, fX5_pass (fI z) past kept x = some (r, fI z, past, kept)) ∨ ∃ n a' q' c' l' t', 1 ≤ n ∧ n ≤ 999 ∧ x = nI n ∧ z 0 + n ≤ 99999 ∧ fX2_passTicks (fI a) (fI v) (fI q) (fI c) (fI l) (nI t) x 99999 = some (nI (zpass z n 0), fI a', fI q', fI c', fI l', nI t') ∧ RZ a' v q' c' l' t' (zpass z n) ∧ (∀ j, q' j < 4294967296) ∧ ∀ past kept, fX5_pass (fI z) past kept x = ob2 (fX5_records (fI z) past kept) fun p k => some (nI (zpass z n 0), fI (zpass z n), p, k) := by
  have d := hI.2.2.2.2.2
  rcases mayPass_ev z x (by omega) with ⟨r, h0, h1, h2⟩ | ⟨n, n1, n2, rfl, n3, h1⟩
  · refine Or.inl ⟨r, h0, h2 _ _ _ _ _ _ (by rw [fI_ap, hR.1 0 (by omega)]; rfl), fun past kept => ?_⟩
    unfold fX5_pass
    rw [h1, ob1_ev, if_neg (fun g => by rw [g] at h0; exact absurd h0 (by decide))]
  · obtain ⟨a', q', c', l', t', e1, e2, e3⟩ := passTicks_ev hB hB2 n 99999 T a v q c l t z hR hq hI (by omega) n1 n2 (by omega) (by omega)
    refine Or.inr ⟨n, a', q', c', l', t', n1, n2, rfl, n3, by rw [li_99999]; exact e1, e2, e3, fun past kept => ?_⟩
    unfold fX5_pass
    rw [h1, ob1_ev, if_pos rfl, passes_z hB n z hI (by omega) (by omega)]
    rfl
