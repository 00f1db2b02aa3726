/-! ===== what the law holds of the object ===== -/
def oNx (o k : Nat) : Nat := if k = 6 then (o + 1) % 7 else o
def kNx (k : Nat) : Nat := if k = 6 then 6 else k + 1
theorem keep_neg (ho hs r : Int32) (h : r < 0) : fX0_keepIfDone ho hs r = some (r, ho, hs) := by
  unfold fX0_keepIfDone
  rw [if_pos h]
theorem keep_pos (o k : Nat) (ho : o < 7) (hk : k ≤ 6) (r : Int32) (h : ¬ r < 0) : fX0_keepIfDone (nI o) (nI k) r = some (r, nI (oNx o k), nI (kNx k)) := by
  unfold fX0_keepIfDone oNx kNx
  rw [if_neg h]
  by_cases g : k = 6
  · subst g
    have e1 : (nI o + 1) - (nI o + 1) / 7 * 7 = nI ((o + 1) % 7) := rem7 o 1 (by omega)
    rw [if_pos (show (6 : Int32) ≤ nI 6 by decide), nm_ev, if_pos rfl, if_pos rfl, e1]
  · rw [if_neg (fun z => by have := (nI_le31 (a := 6) (b := k) (by omega) (by omega)).1 z; omega), nm_ev, if_neg g, if_neg g, nI_1]
theorem zs_255 {z : Nat → Nat} (h : ZS z) (s : Nat) (hs : s < 8) : z (1 + s) ≤ 255 := by
  obtain ⟨h1, h2, h3, h4, h5, h6, h7, h8, h9, h10, h11, h12⟩ := h
  rcases s8 hs with rfl | rfl | rfl | rfl | rfl | rfl | rfl | rfl
  · show z 1 ≤ 255
    omega
  · show z 2 ≤ 255
    omega
  · show z 3 ≤ 255
    omega
  · show z 4 ≤ 255
    omega
  · show z 5 ≤ 255
    omega
  · show z 6 ≤ 255
    omega
  · show z 7 ≤ 255
    omega
  · show z 8 ≤ 255
    omega
def z0N : Nat → Nat := fun j => if 106 ≤ j ∧ j < 202 then NON else if 26 ≤ j ∧ j < 42 then 10 * (j - 26) else if j = 23 then NON else if j = 7 then 255 else if j = 4 then 4 else if j = 3 then 4 else if j = 2 then 5 else if j = 1 then 10 else 0
theorem z0_lt : ∀ j, z0N j < 4294967296 := by
  intro j
  unfold z0N NON
  split
  · omega
  split
  · omega
  split
  · omega
  split
  · omega
  split
  · omega
  split
  · omega
  split
  · omega
  split
  · omega
  · omega
theorem ten_mul (k : Nat) : (10 : Int32) * nI k = nI (10 * k) := by rw [li_10, pk_mul]
theorem m6N : (-6 : Int32) = nI NON := by
  unfold NON
  decide
theorem z0_zero (j : Nat) (h : j = 0 ∨ 5 ≤ j ∧ j ≤ 6 ∨ 8 ≤ j ∧ j ≤ 22 ∨ 24 ≤ j ∧ j ≤ 25) : z0N j = 0 := by
  unfold z0N
  rw [if_neg (by omega), if_neg (by omega), if_neg (by omega), if_neg (by omega), if_neg (by omega), if_neg (by omega), if_neg (by omega), if_neg (by omega)]
theorem fI_val {a : Nat → Nat} (ha : ∀ k, a k < 4294967296) {k x : Nat} (hx : x < 4294967296) (h : fI a k = nI x) : a k = x := (nI_eq32 (ha k) hx).1 h
theorem z0_S {S : T6} (hS : NewS S) : SS 200000 S z0N := by
  obtain ⟨nu, va, qu, sc, lo, wt⟩ := S
  obtain ⟨n1, n2, n3, n4, n5, n6, n7, n8⟩ := hS
  obtain ⟨a, rfl, ha⟩ := fI_of nu
  obtain ⟨v, rfl, hv⟩ := fI_of va
  obtain ⟨q, rfl, hq⟩ := fI_of qu
  obtain ⟨c, rfl, hc⟩ := fI_of sc
  obtain ⟨l, rfl, hl⟩ := fI_of lo
  have n8 : wt = nI 0 := n8
  subst n8
  have zz : ∀ j, (j = 0 ∨ 5 ≤ j ∧ j ≤ 6 ∨ 8 ≤ j ∧ j ≤ 22 ∨ 24 ≤ j ∧ j ≤ 25) → z0N j = 0 := z0_zero
  have s1 : z0N 1 = 10 := by decide
  have s2 : z0N 2 = 5 := by decide
  have s3 : z0N 3 = 4 := by decide
  have s4 : z0N 4 = 4 := by decide
  have s7 : z0N 7 = 255 := by decide
  have b0 := zz 0 (by omega)
  have b5 := zz 5 (by omega)
  have b6 := zz 6 (by omega)
  have b8 := zz 8 (by omega)
  have b9 := zz 9 (by omega)
  have b10 := zz 10 (by omega)
  have b11 := zz 11 (by omega)
  have b12 := zz 12 (by omega)
  have b13 := zz 13 (by omega)
  have b14 := zz 14 (by omega)
  have b15 := zz 15 (by omega)
  have b16 := zz 16 (by omega)
  have b17 := zz 17 (by omega)
  have b18 := zz 18 (by omega)
  have b19 := zz 19 (by omega)
  have b20 := zz 20 (by omega)
  have b21 := zz 21 (by omega)
  have b22 := zz 22 (by omega)
  have b24 := zz 24 (by omega)
  have b25 := zz 25 (by omega)
  refine ⟨a, v, q, c, l, 0, rfl, ⟨?_, ?_, ?_, ?_, ?_, b25.symm⟩, hq, ⟨z0_lt, ⟨by omega, by omega, by omega, by omega, by omega, by omega, by omega, by omega, by omega, by omega, by omega, by omega⟩, ⟨by omega, by omega, by omega, by omega, by omega, by omega, by omega, by omega, by rw [b24, b12, if_pos (by omega)], by omega⟩, ?_, fun p hp => by omega, by omega, by omega, by omega, by omega, by omega, by omega⟩, fun _ => ⟨b15, b16⟩⟩
  · intro j hj
    by_cases g1 : j < 15
    · rw [fI_val ha (x := 0) (by omega) (n2 j g1)]
      refine (zz (mu j) ?_).symm
      unfold mu
      split
      · omega
      · rw [if_pos (by omega)]
        omega
    by_cases g2 : j = 15
    · subst g2
      rw [fI_val ha (x := NON) (by unfold NON; omega) (n3.trans m6N)]
      rfl
    obtain ⟨i, rfl⟩ : ∃ i, j = 16 + i := ⟨j - 16, by omega⟩
    have hi := n1 i (by omega)
    rcases s8 (show i < 8 by omega) with rfl | rfl | rfl | rfl | rfl | rfl | rfl | rfl
    · exact (fI_val ha (x := 10) (by omega) hi).trans s1.symm
    · exact (fI_val ha (x := 5) (by omega) hi).trans s2.symm
    · exact (fI_val ha (x := 4) (by omega) hi).trans s3.symm
    · exact (fI_val ha (x := 4) (by omega) hi).trans s4.symm
    · exact (fI_val ha (x := 0) (by omega) hi).trans b5.symm
    · exact (fI_val ha (x := 0) (by omega) hi).trans b6.symm
    · exact (fI_val ha (x := 255) (by omega) hi).trans s7.symm
    · exact (fI_val ha (x := 0) (by omega) hi).trans b8.symm
  · intro k hk
    have e1 := n4 k hk
    rw [ten_mul] at e1
    rw [fI_val hv (x := 10 * k) (by omega) e1]
    unfold z0N
    rw [if_neg (by omega), if_pos (by omega)]
    omega
  · intro p x hp
    omega
  · intro j hj
    rw [fI_val hc (x := NON) (by unfold NON; omega) ((n6 j hj).trans m6N)]
    unfold z0N
    rw [if_pos (by omega)]
  · intro j x _ hj
    omega
  · intro k hk
    unfold z0N
    rw [if_neg (by omega), if_pos (by omega)]
    omega
theorem z0_PI : PI z0N := by
  have zz : ∀ j, (j = 0 ∨ 5 ≤ j ∧ j ≤ 6 ∨ 8 ≤ j ∧ j ≤ 22 ∨ 24 ≤ j ∧ j ≤ 25) → z0N j = 0 := z0_zero
  have b9 := zz 9 (by omega)
  have b10 := zz 10 (by omega)
  have b11 := zz 11 (by omega)
  have b12 := zz 12 (by omega)
  have b13 := zz 13 (by omega)
  have b14 := zz 14 (by omega)
  have b15 := zz 15 (by omega)
  have b16 := zz 16 (by omega)
  have b17 := zz 17 (by omega)
  have b20 := zz 20 (by omega)
  have b21 := zz 21 (by omega)
  have b22 := zz 22 (by omega)
  have b24 := zz 24 (by omega)
  have bg : gone z0N = 0 := by
    unfold gone
    rw [if_pos b10]
  have b23 : z0N 23 = NON := rfl
  refine ⟨?_, ⟨fun p hp => by omega, fun p q hp hq => by omega⟩, fun j hj => by omega, ?_, ⟨?_, Or.inl ⟨by omega, b23⟩⟩, fun r hr => ⟨fun _ => ?_, fun g => by omega⟩⟩
  · unfold P1
    rw [b9, b16, b17, Nat.zero_mul]
  · unfold P4
    rw [bg, b11, b12, b13, b14]
    omega
  · rw [b13, b15, b20, b21, b22, Nat.zero_mul]
  · have e : ∀ j, 106 ≤ j → j < 202 → z0N j = NON := fun j g1 g2 => by
      unfold z0N
      rw [if_pos ⟨g1, g2⟩]
    exact ⟨e _ (by omega) (by omega), e _ (by omega) (by omega), e _ (by omega) (by omega)⟩
/-- a state at a tick that is not above T -/
def NS (B T : Nat) (S : T6) : Prop := ∃ z, SS B S z ∧ PI z ∧ z 0 ≤ T
def HS (B T : Nat) (Ch : Nat → Option T6) (o k : Nat) : Prop := o < 7 ∧ k ≤ 6 ∧ ∀ i, i < k → ∃ Y, Ch ((o + i) % 7) = some Y ∧ NS B T Y
theorem NS.mono {B B' T T' : Nat} {S : T6} (h : NS B T S) (hB : B ≤ B') (hT : T ≤ T') : NS B' T' S := by
  obtain ⟨z, h1, h2, h3⟩ := h
  exact ⟨z, h1.mono hB, h2, by omega⟩
theorem HS.mono {B B' T T' o k : Nat} {Ch : Nat → Option T6} (h : HS B T Ch o k) (hB : B ≤ B') (hT : T ≤ T') : HS B' T' Ch o k := ⟨h.1, h.2.1, fun i hi => by
  obtain ⟨Y, e, g⟩ := h.2.2 i hi
  exact ⟨Y, e, g.mono hB hT⟩⟩
theorem NS.cp {B T : Nat} {S Y : T6} (h : NS B T S) (hc : CP S Y) : NS B T Y := by
  obtain ⟨z, hS, h2, h3⟩ := h
  have hb : ∀ k, z k < 4294967296 := by
    obtain ⟨a, v, q, c, l, t, -, -, -, hI, -⟩ := id hS
    exact hI.1
  exact ⟨z, hS.cp hc (fun _ _ => rfl) hb, h2, h3⟩
theorem HS.prep {B T o k : Nat} {Ch : Nat → Option T6} (h : HS B T Ch o k) (Y : T6) : HS B T (va_up Ch ((o + k) % 7) (some Y)) o k := by
  obtain ⟨h1, h2, h3⟩ := h
  refine ⟨h1, h2, fun i hi => ?_⟩
  rw [va_up_ne _ _ (by omega)]
  exact h3 i hi
theorem HS.done {B T o k : Nat} {Ch : Nat → Option T6} (h : HS B T Ch o k) {Y : T6} (hY : NS B T Y) : HS B T (va_up Ch ((o + k) % 7) (some Y)) (oNx o k) (kNx k) := by
  obtain ⟨h1, h2, h3⟩ := h
  unfold oNx kNx
  by_cases g : k = 6
  · subst g
    rw [if_pos rfl, if_pos rfl]
    refine ⟨by omega, by omega, fun i hi => ?_⟩
    by_cases gi : i = 5
    · subst gi
      refine ⟨Y, ?_, hY⟩
      rw [show ((o + 1) % 7 + 5) % 7 = (o + 6) % 7 by omega]
      exact va_up_self _ _ _
    · rw [show ((o + 1) % 7 + i) % 7 = (o + (i + 1)) % 7 by omega, va_up_ne _ _ (by omega)]
      exact h3 (i + 1) (by omega)
  · rw [if_neg g, if_neg g]
    refine ⟨h1, by omega, fun i hi => ?_⟩
    by_cases gi : i = k
    · subst gi
      exact ⟨Y, va_up_self _ _ _, hY⟩
    · rw [va_up_ne _ _ (by omega)]
      exact h3 i (by omega)
/-- what a change leaves -/
def OuG (B T : Nat) (S : T6) (o k : Nat) (Ch : Nat → Option T6) (r : Int32) (S' : T6) (o2 k2 : Nat) : Prop := fX0_keepIfDone (nI o) (nI k) r = some (r, nI o2, nI k2) ∧ NS B T S' ∧ (r < 0 → k2 = k ∧ S'.1 0 = S.1 0) ∧ ∀ Y, CP S Y → HS B T (va_up Ch ((o + k) % 7) (some Y)) o2 k2
theorem g_no {B B' T T' : Nat} {S : T6} {o k : Nat} {Ch : Nat → Option T6} {r : Int32} (hN : NS B T S) (hH : HS B T Ch o k) (hr : r < 0) (hB : B ≤ B') (hT : T ≤ T') : OuG B' T' S o k Ch r S o k := ⟨keep_neg _ _ _ hr, hN.mono hB hT, fun _ => ⟨rfl, rfl⟩, fun Y _ => (hH.prep Y).mono hB hT⟩
theorem g_yes {B B' T T' : Nat} {S S' : T6} {o k : Nat} {Ch : Nat → Option T6} {r : Int32} (hN : NS B T S) (hH : HS B T Ch o k) (hr : ¬ r < 0) (hB : B ≤ B') (hT : T ≤ T') (h' : NS B' T' S') : OuG B' T' S o k Ch r S' (oNx o k) (kNx k) := ⟨keep_pos o k hH.1 hH.2.1 r hr, h', fun g => absurd g hr, fun Y hY => (hH.mono hB hT).done ((hN.cp hY).mono hB hT)⟩
theorem g_set {B T : Nat} {S : T6} {o k : Nat} {Ch : Nat → Option T6} (hN : NS B T S) (hH : HS B T Ch o k) (x1 x2 : Int32) : ∃ r nu' o2 k2, fX2_changeSetting S.1 x1 x2 = some (r, nu') ∧ OuG (B + 99) T S o k Ch r (nu', S.2.1, S.2.2.1, S.2.2.2.1, S.2.2.2.2.1, S.2.2.2.2.2) o2 k2 := by
  have hN0 := hN
  obtain ⟨z, ⟨a, v, q, c, l, t, rfl, hR, hq, hI, hZ⟩, hp, h0⟩ := hN
  rcases set_op x1 x2 a z hR.1 hI.1 (by have := hI.w10; omega) with ⟨r, hr, h1, h2⟩ | ⟨s, w, hs, rfl, rfl, h1, h2⟩
  · exact ⟨r, fI a, o, k, h1, g_no hN0 hH hr (by omega) (Nat.le_refl _)⟩
  · obtain ⟨hs8, hlo, hhi, hh, hw⟩ := hs
    have hset : setIn z s w := ⟨hs8, hlo, hhi, fun e => by
      subst e
      have := hZ (hh rfl)
      have : (2 : Nat) ≤ w := hlo
      omega, hw⟩
    have hZ' : ZN (uN z (1 + s) w) := by
      intro g
      rw [uN_n (by omega)] at g
      rw [uN_n (by omega), uN_n (by omega)]
      exact hZ g
    have hS' : SS B (fI (uN a (16 + s) w), fI v, fI q, fI c, fI l, nI t) (uN z (1 + s) w) := ⟨_, _, _, _, _, _, rfl, hR.set s w hs8, hq, hI.set s w hset, hZ'⟩
    have hp' : PI (uN z (1 + s) w) := by
      by_cases e : s = 3
      · subst e
        exact hp.height hI (hh rfl) w
      · exact hp.up hI (1 + s) w (by omega) (by omega)
    have hN' : NS (B + 99) T (fI (uN a (16 + s) w), fI v, fI q, fI c, fI l, nI t) := ⟨_, hS'.mono (by omega), hp', by rw [uN_n (by omega)]; exact h0⟩
    exact ⟨_, _, _, _, h1, g_yes hN0 hH (nlt0 (n := z (1 + s)) (by have := zs_255 hI.2.1 s hs8; omega)) (by omega) (Nat.le_refl _) hN'⟩
theorem g_value {B T : Nat} {S : T6} {o k : Nat} {Ch : Nat → Option T6} (hN : NS B T S) (hH : HS B T Ch o k) (x1 x2 : Int32) : ∃ r va' o2 k2, fX2_changeValue S.2.1 x1 x2 = some (r, va') ∧ OuG (B + 99) T S o k Ch r (S.1, va', S.2.2.1, S.2.2.2.1, S.2.2.2.2.1, S.2.2.2.2.2) o2 k2 := by
  have hN0 := hN
  obtain ⟨z, ⟨a, v, q, c, l, t, rfl, hR, hq, hI, hZ⟩, hp, h0⟩ := hN
  rcases value_op x1 x2 v z hR.2.1 with ⟨r, hr, h1, h2⟩ | ⟨s, w, hs, hw, rfl, rfl, h1, h2⟩
  · exact ⟨r, fI v, o, k, h1, g_no hN0 hH hr (by omega) (Nat.le_refl _)⟩
  · have hZ' : ZN (uN z (26 + s) w) := by
      intro g
      rw [uN_n (by omega)] at g
      rw [uN_n (by omega), uN_n (by omega)]
      exact hZ g
    have hS' : SS B (fI a, fI (uN v s w), fI q, fI c, fI l, nI t) (uN z (26 + s) w) := ⟨_, _, _, _, _, _, rfl, hR.value s w hs, hq, hI.value s w hs hw, hZ'⟩
    have hb : z (26 + s) ≤ 255 := hI.2.2.2.1 s hs
    have hN' : NS (B + 99) T (fI a, fI (uN v s w), fI q, fI c, fI l, nI t) := ⟨_, hS'.mono (by omega), hp.up hI (26 + s) w (by omega) (by omega), by rw [uN_n (by omega)]; exact h0⟩
    exact ⟨_, _, _, _, h1, g_yes hN0 hH (nlt0 (n := z (26 + s)) (by omega)) (by omega) (Nat.le_refl _) hN'⟩
theorem g_slip {B T : Nat} (hB2 : B + 99 < 2000000000) {S : T6} {o k : Nat} {Ch : Nat → Option T6} (hN : NS B T S) (hH : HS B T Ch o k) (x1 x2 : Int32) : ∃ r nu' o2 k2, fX2_delayClock S.1 x1 x2 = some (r, nu') ∧ OuG (B + 99) T S o k Ch r (nu', S.2.1, S.2.2.1, S.2.2.2.1, S.2.2.2.2.1, S.2.2.2.2.2) o2 k2 := by
  have hN0 := hN
  obtain ⟨z, ⟨a, v, q, c, l, t, rfl, hR, hq, hI, hZ⟩, hp, h0⟩ := hN
  rcases slip_op x1 x2 a z hR.1 with ⟨r, hr, h1, h2⟩ | ⟨s, w, hs, hw1, hw2, rfl, rfl, h1, h2⟩
  · exact ⟨r, fI a, o, k, h1, g_no hN0 hH hr (by omega) (Nat.le_refl _)⟩
  · have hZ' : ZN (uN z (18 + s) (z (18 + s) + w)) := by
      intro g
      rw [uN_n (by omega)] at g
      rw [uN_n (by omega), uN_n (by omega)]
      exact hZ g
    have hS' : SS (B + 99) (fI (uN a (10 + s) (z (18 + s) + w)), fI v, fI q, fI c, fI l, nI t) (uN z (18 + s) (z (18 + s) + w)) := ⟨_, _, _, _, _, _, rfl, hR.slip s _ hs, hq, hI.slip s w hs hw2 (by omega), hZ'⟩
    have hb : z (18 + s) ≤ B := by
      obtain ⟨-, -, -, -, -, -, -, b1, b2, -, -⟩ := hI
      rcases (show s = 0 ∨ s = 1 by omega) with rfl | rfl
      · exact b1
      · exact b2
    have hN' : NS (B + 99) T (fI (uN a (10 + s) (z (18 + s) + w)), fI v, fI q, fI c, fI l, nI t) := ⟨_, hS', hp.up hI (18 + s) _ (by omega) (by omega), by rw [uN_n (by omega)]; exact h0⟩
    exact ⟨_, _, _, _, h1, g_yes hN0 hH (nlt0 (n := z (18 + s) + w) (by omega)) (by omega) (Nat.le_refl _) hN'⟩
theorem g_flush {B T : Nat} {S : T6} {o k : Nat} {Ch : Nat → Option T6} (hN : NS B T S) (hH : HS B T Ch o k) : ∃ r nu' qu' lo' o2 k2, fX2_skipAll S.1 S.2.2.1 S.2.2.2.2.1 = some (r, nu', qu', lo') ∧ OuG (B + 99) T S o k Ch r (nu', S.2.1, qu', S.2.2.2.1, lo', S.2.2.2.2.2) o2 k2 := by
  have hN0 := hN
  obtain ⟨z, ⟨a, v, q, c, l, t, rfl, hR, hq, hI, hZ⟩, hp, h0⟩ := hN
  have hK := hI.KQ (by omega) (by omega) (by omega)
  obtain ⟨a', q', l', h1, hR', hq', h2⟩ := flush_op a v q c l t z hR hq hK
  have hZ' : ZN (zflush z (z 10)) := by
    intro g
    rw [zflush_lo 0 (by omega) (by omega) (by omega) (by omega)] at g
    rw [zflush_lo 15 (by omega) (by omega) (by omega) (by omega), zflush_lo 16 (by omega) (by omega) (by omega) (by omega)]
    exact hZ g
  have hS' : SS B (fI a', fI v, fI q', fI c, fI l', nI t) (zflush z (z 10)) := ⟨_, _, _, _, _, _, rfl, hR', hq', ZI.flush (by omega) (by omega) (z 10) z hI rfl, hZ'⟩
  have hN' : NS (B + 99) T (fI a', fI v, fI q', fI c, fI l', nI t) := ⟨_, hS'.mono (by omega), PI.flush (by omega) (z 10) z hI rfl hp, by rw [zflush_lo 0 (by omega) (by omega) (by omega) (by omega)]; exact h0⟩
  exact ⟨_, _, _, _, _, _, h1, g_yes hN0 hH (nlt0 (n := z 10) (by have := hI.w10; omega)) (by omega) (Nat.le_refl _) hN'⟩
theorem plus_sub (x y : Int32) : x + (y - x) = y := by rw [Int32.add_comm, Int32.sub_add_cancel]
theorem g_would {B T : Nat} (hB : 200000 ≤ B) (hB2 : B < 2000000000) (n : Nat) (h1 : 1 ≤ n) (h2 : n ≤ 60) (a v q c l : Nat → Nat) (t : Nat) (z : Nat → Nat) (hR : RZ a v q c l t z) (hq : ∀ j, q j < 4294967296) (hI : ZI 99999 B 0 0 0 z) (V : T6) (w : Nat) (hw : w < 3) : ∃ Y, fX4_would (fI a) (fI v) (fI q) (fI c) (fI l) (nI t) V.1 V.2.1 V.2.2.1 V.2.2.2.1 V.2.2.2.2.1 V.2.2.2.2.2 (nI n) (nI w) = some (w6 (nI (zpass z n (if w = 0 then 12 else if w = 1 then 14 else 20)) - nI (z (if w = 0 then 12 else if w = 1 then 14 else 20))) Y) := by
  obtain ⟨tnu, tva, tqu, tsc, tlo, twt⟩ := V
  obtain ⟨ta, rfl, ha⟩ := fI_of tnu
  obtain ⟨tv, rfl, hv⟩ := fI_of tva
  obtain ⟨tq, rfl, hq2⟩ := fI_of tqu
  obtain ⟨tc, rfl, hc⟩ := fI_of tsc
  obtain ⟨tl, rfl, hl⟩ := fI_of tlo
  have d := hI.2.2.2.2.2
  obtain ⟨a', q', c', l', t', e1, e2, e3⟩ := passTicks_ev hB hB2 n 1073741824 99999 _ _ _ _ _ t _ (hR.cut hI.w10 (fun _ _ => rfl) ta tv tq tc tl) (cut_lt hq hq2) hI (by omega) h1 (by omega) (by omega) (by omega)
  unfold fX4_would
  rw [li_1, li_999, within_n n 1 999 (by omega) (by omega) (by omega), ob1_ev, if_neg (by decide), li_0, li_2, within_n w 0 2 (by omega) (by omega) (by omega), ob1_ev, if_neg (by decide), copy_ev, ob6_ev, endless, e1, ob6_ev, li_4, li_6, li_12, gain_c a a' z _ hR.1 e2.1 4 (by omega), gain_c a a' z _ hR.1 e2.1 6 (by omega), gain_c a a' z _ hR.1 e2.1 12 (by omega), ob1_ev, ob1_ev, ob1_ev]
  rcases (show w = 0 ∨ w = 1 ∨ w = 2 by omega) with rfl | rfl | rfl
  · rw [if_pos (by decide)]
    exact ⟨(_, _, _, _, _, _), rfl⟩
  · rw [if_neg (by decide), if_pos (by decide)]
    exact ⟨(_, _, _, _, _, _), rfl⟩
  · rw [if_neg (by decide), if_neg (by decide)]
    exact ⟨(_, _, _, _, _, _), rfl⟩
theorem g_pass {B T : Nat} (hB : 200000 ≤ B) (hB2 : B < 2000000000) {S : T6} {o k : Nat} {Ch : Nat → Option T6} (hN : NS B T S) (hH : HS B T Ch o k) (hT : T ≤ 3000) (n : Nat) (h1 : 1 ≤ n) (h2 : n ≤ 60) : ∃ nu' qu' sc' lo' wt' o2 k2, fX2_passTicks S.1 S.2.1 S.2.2.1 S.2.2.2.1 S.2.2.2.2.1 S.2.2.2.2.2 (nI n) 99999 = some (S.1 0 + nI n, nu', qu', sc', lo', wt') ∧ OuG (B + 99) (T + 60) S o k Ch (S.1 0 + nI n) (nu', S.2.1, qu', sc', lo', wt') o2 k2 ∧ (∀ V : T6, ∃ r Y, fX4_would S.1 S.2.1 S.2.2.1 S.2.2.2.1 S.2.2.2.2.1 S.2.2.2.2.2 V.1 V.2.1 V.2.2.1 V.2.2.2.1 V.2.2.2.2.1 V.2.2.2.2.2 (nI n) 0 = some (w6 r Y) ∧ S.1 4 + r = nu' 4) ∧ (∀ V : T6, ∃ r Y, fX4_would S.1 S.2.1 S.2.2.1 S.2.2.2.1 S.2.2.2.2.1 S.2.2.2.2.2 V.1 V.2.1 V.2.2.1 V.2.2.2.1 V.2.2.2.2.1 V.2.2.2.2.2 (nI n) 1 = some (w6 r Y) ∧ S.1 6 + r = nu' 6) ∧ ∀ V : T6, ∃ r Y, fX4_would S.1 S.2.1 S.2.2.1 S.2.2.2.1 S.2.2.2.2.1 S.2.2.2.2.2 V.1 V.2.1 V.2.2.1 V.2.2.2.1 V.2.2.2.2.1 V.2.2.2.2.2 (nI n) 2 = some (w6 r Y) ∧ S.1 12 + r = nu' 12 := by
  have hN0 := hN
  obtain ⟨z, ⟨a, v, q, c, l, t, rfl, hR, hq, hI, hZ⟩, hp, h0⟩ := hN
  obtain ⟨a', q', c', l', t', e1, e2, e3⟩ := passTicks_ev hB hB2 n 99999 99999 a v q c l t z hR hq hI (by omega) h1 (by omega) (by omega) (by omega)
  have e0 := zpass_0 hB n 99999 z hI (by omega)
  have hZ' : ZN (zpass z n) := by
    intro g
    rw [e0] at g
    omega
  have hS' : SS B (fI a', fI v, fI q', fI c', fI l', nI t') (zpass z n) := ⟨_, _, _, _, _, _, rfl, e2, e3, hI.passed hB n (by omega), hZ'⟩
  have hN' : NS (B + 99) (T + 60) (fI a', fI v, fI q', fI c', fI l', nI t') := ⟨_, hS'.mono (by omega), PI.pass hB n 99999 z hI (by omega) hp, by rw [e0]; omega⟩
  have er : (fI a) 0 + nI n = nI (zpass z n 0) := by
    rw [fI_ap, hR.1 0 (by omega), show z (mu 0) = z 0 from rfl, nI_add, e0]
  have k4 : ∀ j, j < 24 → (fI a) j + (nI (zpass z n (mu j)) - nI (z (mu j))) = (fI a') j := fun j hj => by
    rw [fI_ap, fI_ap, hR.1 j hj, e2.1 j hj, plus_sub]
  dsimp only
  rw [er]
  rw [← li_99999] at e1
  refine ⟨_, _, _, _, _, _, _, e1, g_yes hN0 hH (nlt0 (n := zpass z n 0) (by omega)) (by omega) (by omega) hN', fun V => ?_, fun V => ?_, fun V => ?_⟩
  · obtain ⟨Y, g⟩ := g_would (T := T) hB hB2 n h1 h2 a v q c l t z hR hq hI V 0 (by omega)
    exact ⟨_, Y, g, k4 4 (by omega)⟩
  · obtain ⟨Y, g⟩ := g_would (T := T) hB hB2 n h1 h2 a v q c l t z hR hq hI V 1 (by omega)
    exact ⟨_, Y, g, k4 6 (by omega)⟩
  · obtain ⟨Y, g⟩ := g_would (T := T) hB hB2 n h1 h2 a v q c l t z hR hq hI V 2 (by omega)
    exact ⟨_, Y, g, k4 12 (by omega)⟩
theorem g_lines {B T : Nat} {S : T6} (hN : NS B T S) (pl hs : Int32) : fL_lines S.1 S.2.2.1 pl hs = some 1 := by
  obtain ⟨z, ⟨a, v, q, c, l, t, rfl, hR, hq, hI, hZ⟩, hp, h0⟩ := hN
  exact lines_ev hR.1 hR.2.2.1 hI (by omega) hp pl hs
theorem g_rows {B T : Nat} {S : T6} (hN : NS B T S) (pl hs : Int32) : fL_rows S.1 S.2.2.1 S.2.2.2.1 S.2.2.2.2.1 pl hs = some 1 := by
  obtain ⟨z, ⟨a, v, q, c, l, t, rfl, hR, hq, hI, hZ⟩, hp, h0⟩ := hN
  exact rows_ev hR.1 hR.2.2.1 hR.2.2.2.2.1 hR.2.2.2.1 hI (by omega) hp pl hs
theorem g_count (a : Nat → Int32) (pl hs : Int32) (k : Nat) (hk : k < 24) : fX4_count a pl hs (nI k) = some (a k) := by
  unfold fX4_count
  rw [li_24, li_25, if_neg (n_ne (by omega) (by omega) (by omega)), if_neg (n_ne (by omega) (by omega) (by omega)), li_0, li_23, within_n k 0 23 (by omega) (by omega) (by omega), ob1_ev, if_neg (by decide), chk_nI (by omega) (by omega)]
