/-! ===== the loops that find the exponent ===== -/
def iI (i : Int) : Int32 := Int32.ofInt i
theorem iI_toInt {i : Int} (h1 : -2147483648 ≤ i) (h2 : i < 2147483648) : (iI i).toInt = i := by
  show (BitVec.ofInt 32 i).toInt = i
  rw [BitVec.toInt_ofInt]
  exact Int.bmod_eq_of_le (by omega) (by omega)
theorem iI_ext {x : Int32} {i : Int} (h1 : -2147483648 ≤ i) (h2 : i < 2147483648) (h : x.toInt = i) : x = iI i := by
  apply Int32.toInt_inj.mp
  rw [iI_toInt h1 h2, h]
theorem iI_add {x : Int32} {i j : Int} (hx : x.toInt = j) (h1 : -1000000 ≤ i) (h2 : i ≤ 1000000) (h3 : -1000000 ≤ j) (h4 : j ≤ 1000000) : iI i + x = iI (i + j) := by
  refine iI_ext (by omega) (by omega) ?_
  rw [Int32.toInt_add, iI_toInt (by omega) (by omega), hx]
  exact Int.bmod_eq_of_le (by omega) (by omega)
theorem iI_nI {n : Nat} (h : n < 1000000) : nI n = iI n := iI_ext (by omega) (by omega) (nI_toInt (by omega))
theorem bits2 (b : Int32) (bias : Nat) (hb : 100 ≤ bias) (hb2 : bias ≤ 1100) (c : Nat) : ∀ (f d : Nat) (x : UInt64) (e : Int), VD x c (-52 - d) → d < f → d ≤ 90 → e - d ≥ -90 → e ≤ 90 → ∃ y, VD y c (-52) ∧ fX4_bitsOf_43 f b (nI bias) x (iI e) = fX4_bitsOf_72 b (nI bias) y (iI (e - d)) := by
  intro f
  induction f with
  | zero => intro d x e _ h; omega
  | succ f ih =>
    intro d x e hx h1 h2 h3 h4
    have ef : fX4_bitsOf_43 (f + 1) b (nI bias) x (iI e) = fX4_bitsOf_43_b (fX4_bitsOf_43 f) b (nI bias) x (iI e) := rfl
    rw [ef]
    unfold fX4_bitsOf_43_b
    have g1 := hx.ge1
    cases d with
    | zero =>
      rw [if_pos (g1.2 (by omega))]
      exact ⟨x, hx, by rw [show e - ((0 : Nat) : Int) = e by omega]⟩
    | succ d =>
      have hle : ¬ iI e ≤ 1 - nI bias := by
        intro g
        rw [Int32.le_iff_toInt_le, iI_toInt (by omega) (by omega), li_1, pk_sub_toInt (by omega) (by omega)] at g
        omega
      have hd := hx.dbl (by omega)
      rw [if_neg (fun g => by have := g1.1 g; omega), if_neg hle, nd_ev (nan_no hd.1), nm_ev, nm_ev, iI_add (x := (-1)) (j := -1) (by decide) (by omega) (by omega) (by omega) (by omega)]
      rw [show (-52 - ((d + 1 : Nat) : Int) + 1) = -52 - (d : Int) by omega] at hd
      obtain ⟨y, y1, y2⟩ := ih d _ (e + -1) hd (by omega) (by omega) (by omega) (by omega)
      refine ⟨y, y1, y2.trans ?_⟩
      rw [show e + -1 - (d : Int) = e - ((d + 1 : Nat) : Int) by omega]
theorem bits1 (b : Int32) (bias : Nat) (hb : 100 ≤ bias) (hb2 : bias ≤ 1100) (c : Nat) : ∀ (f d : Nat) (x : UInt64) (e : Int), VD x c (-52 + d) → d < f → d ≤ 90 → e + d ≤ 90 → -90 ≤ e → ∃ y, VD y c (-52) ∧ fX4_bitsOf_14 f b (nI bias) x (iI e) = fX4_bitsOf_43 KF b (nI bias) y (iI (e + d)) := by
  intro f
  induction f with
  | zero => intro d x e _ h; omega
  | succ f ih =>
    intro d x e hx h1 h2 h3 h4
    have ef : fX4_bitsOf_14 (f + 1) b (nI bias) x (iI e) = fX4_bitsOf_14_b (fX4_bitsOf_14 f) b (nI bias) x (iI e) := rfl
    rw [ef]
    unfold fX4_bitsOf_14_b
    have g1 := hx.lt2
    cases d with
    | zero =>
      rw [if_pos (g1.2 (by omega))]
      exact ⟨x, hx, by rw [show e + ((0 : Nat) : Int) = e by omega]⟩
    | succ d =>
      have hle : ¬ nI bias ≤ iI e := by
        intro g
        rw [Int32.le_iff_toInt_le, iI_toInt (by omega) (by omega), nI_toInt (by omega)] at g
        omega
      have hd := hx.half (by omega)
      rw [if_neg (fun g => by have := g1.1 g; omega), if_neg hle, nd_ev (nan_no hd.1), nm_ev, nm_ev, iI_add (x := 1) (j := 1) (by decide) (by omega) (by omega) (by omega) (by omega)]
      rw [show (-52 + ((d + 1 : Nat) : Int) - 1) = -52 + (d : Int) by omega] at hd
      obtain ⟨y, y1, y2⟩ := ih d _ (e + 1) hd (by omega) (by omega) (by omega) (by omega)
      refine ⟨y, y1, y2.trans ?_⟩
      rw [show e + 1 + (d : Int) = e + ((d + 1 : Nat) : Int) by omega]
theorem bits_loops (b : Int32) (bias : Nat) (hb : 100 ≤ bias) (hb2 : bias ≤ 1100) (c : Nat) (q : Int) (x : UInt64) (h : VD x c q) (h1 : -130 ≤ q) (h2 : q ≤ 30) : ∃ y, VD y c (-52) ∧ fX4_bitsOf x b (nI bias) = fX4_bitsOf_72 b (nI bias) y (iI (q + 52)) := by
  unfold fX4_bitsOf
  rw [if_pos h.pos, show (0 : Int32) = iI 0 from rfl]
  by_cases g : -52 ≤ q
  · obtain ⟨d, hd⟩ : ∃ d : Nat, q = -52 + d := ⟨(q + 52).toNat, by omega⟩
    subst hd
    obtain ⟨y, y1, y2⟩ := bits1 b bias hb hb2 c KF d x 0 h (by rw [KF_eq]; omega) (by omega) (by omega) (by omega)
    obtain ⟨y', u1, u2⟩ := bits2 b bias hb hb2 c KF 0 y (0 + d) (by rw [show (-52 - ((0 : Nat) : Int)) = -52 by omega]; exact y1) (by rw [KF_eq]; omega) (by omega) (by omega) (by omega)
    refine ⟨y', u1, y2.trans (u2.trans ?_)⟩
    rw [show (0 + (d : Int) - ((0 : Nat) : Int)) = -52 + (d : Int) + 52 by omega]
  · obtain ⟨d, hd⟩ : ∃ d : Nat, q = -52 - d := ⟨(-52 - q).toNat, by omega⟩
    subst hd
    have ef : fX4_bitsOf_14 KF b (nI bias) x (iI 0) = fX4_bitsOf_14_b (fX4_bitsOf_14 4999) b (nI bias) x (iI 0) := rfl
    rw [ef]
    unfold fX4_bitsOf_14_b
    rw [if_pos (h.lt2.2 (by omega))]
    obtain ⟨y', u1, u2⟩ := bits2 b bias hb hb2 c KF d x 0 h (by rw [KF_eq]; omega) (by omega) (by omega) (by omega)
    refine ⟨y', u1, u2.trans ?_⟩
    rw [show (0 - (d : Int)) = -52 - (d : Int) + 52 by omega]
