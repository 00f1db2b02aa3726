/-! ===== what the law holds between the two ===== -/
def NSt (B : Nat) (S : T6) (now : Nat → Int32) : Prop := ∃ z : Nat → Nat, now = fI z ∧ SS B S z
def HSt (B : Nat) (Ch : Nat → Option T6) (o k : Nat) (past : Nat → Int32) (kept : Int32) : Prop := ∃ P : Nat → Nat, past = fI P ∧ kept = nI k ∧ HR B Ch o k P
def SLs (B : Nat) (c : Option T6) (hd : Int32) (w : Nat → Nat) : Prop := (c = none ∧ hd = 0) ∨ ∃ V, c = some V ∧ hd = 1 ∧ SS B V w
def LSl (B : Nat) (Cl : Nat → Option T6) (slt held : Nat → Int32) : Prop := ∃ L : Nat → Nat, slt = fI L ∧ (∀ j, L j < 4294967296) ∧ ∀ i, i < 2 → SLs B (Cl i) (held i) (slc L i)
def PPd (ch : Nat → Int32) (pl : Int32) (mpad : Nat → Int32) (mpl : Int32) : Prop := ∃ (p : Nat → Nat) (n : Nat), PD p n ch mpad ∧ pl = nI n ∧ mpl = nI n
theorem ns_mono {B B' : Nat} {S : T6} {now : Nat → Int32} (h : NSt B S now) (hB : B ≤ B') : NSt B' S now := by
  obtain ⟨z, h1, h2⟩ := h
  exact ⟨z, h1, h2.mono hB⟩
theorem hs_mono {B B' : Nat} {Ch : Nat → Option T6} {o k : Nat} {past : Nat → Int32} {kept : Int32} (h : HSt B Ch o k past kept) (hB : B ≤ B') : HSt B' Ch o k past kept := by
  obtain ⟨P, h1, h2, h3⟩ := h
  exact ⟨P, h1, h2, h3.mono hB⟩
theorem sls_mono {B B' : Nat} {c : Option T6} {hd : Int32} {w : Nat → Nat} (h : SLs B c hd w) (hB : B ≤ B') : SLs B' c hd w := by
  rcases h with h | ⟨V, h1, h2, h3⟩
  · exact Or.inl h
  · exact Or.inr ⟨V, h1, h2, h3.mono hB⟩
theorem lsl_mono {B B' : Nat} {Cl : Nat → Option T6} {slt held : Nat → Int32} (h : LSl B Cl slt held) (hB : B ≤ B') : LSl B' Cl slt held := by
  obtain ⟨L, h1, h2, h3⟩ := h
  exact ⟨L, h1, h2, fun i hi => sls_mono (h3 i hi) hB⟩
def oNx (o k : Nat) : Nat := if k = 6 then (o + 1) % 7 else o
def kNx (k : Nat) : Nat := if k = 6 then 6 else k + 1
theorem keep_neg (ho hs r : Int32) (h : r < 0) : fX0_keepIfDone ho hs r = some (r, ho, hs) := by
  unfold fX0_keepIfDone
  rw [if_pos h]
theorem keep_pos (o k : Nat) (ho : o < 7) (hk : k ≤ 6) (r : Int32) (h : ¬ r < 0) : fX0_keepIfDone (nI o) (nI k) r = some (r, nI (oNx o k), nI (kNx k)) := by
  unfold fX0_keepIfDone oNx kNx
  rw [if_neg h]
  by_cases g : k = 6
  · subst g
    have e1 : (nI o + 1) - (nI o + 1) / 7 * 7 = nI ((o + 1) % 7) := rem7 o 1 (by omega)
    rw [if_pos (show (6 : Int32) ≤ nI 6 by decide), nm_ev, if_pos rfl, if_pos rfl, e1]
  · rw [if_neg (fun z => by have := (nI_le31 (a := 6) (b := k) (by omega) (by omega)).1 z; omega), nm_ev, if_neg g, if_neg g, nI_1]
theorem hs_b {B : Nat} {Ch : Nat → Option T6} {o k : Nat} {past : Nat → Int32} {kept : Int32} (h : HSt B Ch o k past kept) : o < 7 ∧ k ≤ 6 := by
  obtain ⟨P, -, -, hR⟩ := h
  exact ⟨hR.1, hR.2.1⟩
theorem hs_prep {B : Nat} {Ch : Nat → Option T6} {o k : Nat} {past : Nat → Int32} {kept : Int32} (h : HSt B Ch o k past kept) (Y : T6) : HSt B (va_up Ch ((o + k) % 7) (some Y)) o k past kept := by
  obtain ⟨P, h1, h2, hR⟩ := h
  exact ⟨P, h1, h2, hR.prep (fun i hi hne => va_up_ne _ _ hne)⟩
theorem hs_rec {B : Nat} {Ch : Nat → Option T6} {o k : Nat} {past : Nat → Int32} {kept : Int32} (h : HSt B Ch o k past kept) (z : Nat → Nat) (hz : ∀ j, z j < 4294967296) : ∃ past' kept', fX5_records (fI z) past kept = some (past', kept') ∧ ∀ Y, SS B Y z → HSt B (va_up Ch ((o + k) % 7) (some Y)) (oNx o k) (kNx k) past' kept' := by
  obtain ⟨P, rfl, rfl, hR⟩ := h
  obtain ⟨P', h1, h2, h3, h4⟩ := records_z z P k hR.2.1 hz hR.2.2.1
  refine ⟨_, _, h1, fun Y hY => ⟨P', rfl, rfl, ?_⟩⟩
  exact hR.done (ring' := va_up Ch ((o + k) % 7) (some Y)) (fun i hi hne => va_up_ne _ _ hne) (va_up_self _ _ _) hY h2 h3 h4
/-- what a change leaves -/
def OuC (B' : Nat) (S : T6) (o k : Nat) (Ch : Nat → Option T6) (r : Int32) (S' : T6) (o2 k2 : Nat) (now' past' : Nat → Int32) (kept' : Int32) : Prop := fX0_keepIfDone (nI o) (nI k) r = some (r, nI o2, nI k2) ∧ NSt B' S' now' ∧ ∀ Y, CP S Y → HSt B' (va_up Ch ((o + k) % 7) (some Y)) o2 k2 past' kept'
theorem out_no {B : Nat} {S : T6} {o k : Nat} {Ch : Nat → Option T6} {now past : Nat → Int32} {kept r : Int32} (hN : NSt B S now) (hH : HSt B Ch o k past kept) (hr : r < 0) : OuC B S o k Ch r S o k now past kept := ⟨keep_neg _ _ _ hr, hN, fun Y _ => hs_prep hH Y⟩
theorem out_yes {B B' : Nat} {S S' : T6} {o k : Nat} {Ch : Nat → Option T6} {past : Nat → Int32} {kept r : Int32} {z z' : Nat → Nat} (hS : SS B S z) (hz : ∀ j, z j < 4294967296) (hH : HSt B Ch o k past kept) (hr : ¬ r < 0) (hS' : SS B' S' z') (hB : B ≤ B') : ∃ past' kept', fX5_records (fI z) past kept = some (past', kept') ∧ OuC B' S o k Ch r S' (oNx o k) (kNx k) (fI z') past' kept' := by
  obtain ⟨past', kept', h1, h2⟩ := hs_rec hH z hz
  exact ⟨past', kept', h1, keep_pos o k (hs_b hH).1 (hs_b hH).2 r hr, ⟨z', rfl, hS'⟩, fun Y hY => hs_mono (h2 Y (hS.cp hY (fun j hj => rfl) hz)) hB⟩
theorem zs_255 {z : Nat → Nat} (h : ZS z) (s : Nat) (hs : s < 8) : z (1 + s) ≤ 255 := by
  obtain ⟨h1, h2, h3, h4, h5, h6, h7, h8, h9, h10, h11, h12⟩ := h
  rcases s8 hs with rfl | rfl | rfl | rfl | rfl | rfl | rfl | rfl
  · show z 1 ≤ 255
    omega
  · show z 2 ≤ 255
    omega
  · show z 3 ≤ 255
    omega
  · show z 4 ≤ 255
    omega
  · show z 5 ≤ 255
    omega
  · show z 6 ≤ 255
    omega
  · show z 7 ≤ 255
    omega
  · show z 8 ≤ 255
    omega
theorem l_set {B : Nat} {S : T6} {o k : Nat} {Ch : Nat → Option T6} {now past : Nat → Int32} {kept : Int32} (hN : NSt B S now) (hH : HSt B Ch o k past kept) (x1 x2 : Int32) : ∃ r nu' o2 k2 now' past' kept', fX2_changeSetting S.1 x1 x2 = some (r, nu') ∧ fX5_set now past kept x1 x2 = some (r, now', past', kept') ∧ OuC B S o k Ch r (nu', S.2.1, S.2.2.1, S.2.2.2.1, S.2.2.2.2.1, S.2.2.2.2.2) o2 k2 now' past' kept' := by
  obtain ⟨z, rfl, hS⟩ := hN
  have hS0 := hS
  obtain ⟨a, v, q, c, l, t, rfl, hR, hq, hI, hZ⟩ := hS
  rcases set_op x1 x2 a z hR.1 hI.1 (by have := hI.w10; omega) with ⟨r, hr, h1, h2⟩ | ⟨s, w, hs, rfl, rfl, h1, h2⟩
  · exact ⟨r, fI a, o, k, fI z, past, kept, h1, h2 past kept, out_no ⟨z, rfl, hS0⟩ hH hr⟩
  · obtain ⟨hs8, hlo, hhi, hh, hw⟩ := hs
    have hset : setIn z s w := ⟨hs8, hlo, hhi, fun e => by
      subst e
      have := hZ (hh rfl)
      have : (2 : Nat) ≤ w := hlo
      omega, hw⟩
    have hZ' : ZN (uN z (1 + s) w) := by
      intro g
      rw [uN_n (by omega)] at g
      rw [uN_n (by omega), uN_n (by omega)]
      exact hZ g
    have hS' : SS B (fI (uN a (16 + s) w), fI v, fI q, fI c, fI l, nI t) (uN z (1 + s) w) := ⟨_, _, _, _, _, _, rfl, hR.set s w hs8, hq, hI.set s w hset, hZ'⟩
    obtain ⟨past', kept', h3, h4⟩ := out_yes hS0 hI.1 hH (nlt0 (n := z (1 + s)) (by have := zs_255 hI.2.1 s hs8; omega)) hS' (Nat.le_refl B)
    exact ⟨_, _, _, _, _, past', kept', h1, by rw [h2, h3, ob2_ev], h4⟩
theorem l_value {B : Nat} {S : T6} {o k : Nat} {Ch : Nat → Option T6} {now past : Nat → Int32} {kept : Int32} (hN : NSt B S now) (hH : HSt B Ch o k past kept) (x1 x2 : Int32) : ∃ r va' o2 k2 now' past' kept', fX2_changeValue S.2.1 x1 x2 = some (r, va') ∧ fX5_value now past kept x1 x2 = some (r, now', past', kept') ∧ OuC B S o k Ch r (S.1, va', S.2.2.1, S.2.2.2.1, S.2.2.2.2.1, S.2.2.2.2.2) o2 k2 now' past' kept' := by
  obtain ⟨z, rfl, hS⟩ := hN
  have hS0 := hS
  obtain ⟨a, v, q, c, l, t, rfl, hR, hq, hI, hZ⟩ := hS
  rcases value_op x1 x2 v z hR.2.1 with ⟨r, hr, h1, h2⟩ | ⟨s, w, hs, hw, rfl, rfl, h1, h2⟩
  · exact ⟨r, fI v, o, k, fI z, past, kept, h1, h2 past kept, out_no ⟨z, rfl, hS0⟩ hH hr⟩
  · have hZ' : ZN (uN z (26 + s) w) := by
      intro g
      rw [uN_n (by omega)] at g
      rw [uN_n (by omega), uN_n (by omega)]
      exact hZ g
    have hS' : SS B (fI a, fI (uN v s w), fI q, fI c, fI l, nI t) (uN z (26 + s) w) := ⟨_, _, _, _, _, _, rfl, hR.value s w hs, hq, hI.value s w hs hw, hZ'⟩
    have hb : z (26 + s) ≤ 255 := hI.2.2.2.1 s hs
    obtain ⟨past', kept', h3, h4⟩ := out_yes hS0 hI.1 hH (nlt0 (n := z (26 + s)) (by omega)) hS' (Nat.le_refl B)
    exact ⟨_, _, _, _, _, past', kept', h1, by rw [h2, h3, ob2_ev], h4⟩
theorem l_slip {B : Nat} (hB2 : B + 99 < 2000000000) {S : T6} {o k : Nat} {Ch : Nat → Option T6} {now past : Nat → Int32} {kept : Int32} (hN : NSt B S now) (hH : HSt B Ch o k past kept) (x1 x2 : Int32) : ∃ r nu' o2 k2 now' past' kept', fX2_delayClock S.1 x1 x2 = some (r, nu') ∧ fX5_slip now past kept x1 x2 = some (r, now', past', kept') ∧ OuC (B + 99) S o k Ch r (nu', S.2.1, S.2.2.1, S.2.2.2.1, S.2.2.2.2.1, S.2.2.2.2.2) o2 k2 now' past' kept' := by
  obtain ⟨z, rfl, hS⟩ := hN
  have hS0 := hS
  obtain ⟨a, v, q, c, l, t, rfl, hR, hq, hI, hZ⟩ := hS
  rcases slip_op x1 x2 a z hR.1 with ⟨r, hr, h1, h2⟩ | ⟨s, w, hs, hw1, hw2, rfl, rfl, h1, h2⟩
  · exact ⟨r, fI a, o, k, fI z, past, kept, h1, h2 past kept, out_no ⟨z, rfl, hS0.mono (by omega)⟩ (hs_mono hH (by omega)) hr⟩
  · have hZ' : ZN (uN z (18 + s) (z (18 + s) + w)) := by
      intro g
      rw [uN_n (by omega)] at g
      rw [uN_n (by omega), uN_n (by omega)]
      exact hZ g
    have hS' : SS (B + 99) (fI (uN a (10 + s) (z (18 + s) + w)), fI v, fI q, fI c, fI l, nI t) (uN z (18 + s) (z (18 + s) + w)) := ⟨_, _, _, _, _, _, rfl, hR.slip s _ hs, hq, hI.slip s w hs hw2 (by omega), hZ'⟩
    have hb : z (18 + s) ≤ B := by
      obtain ⟨-, -, -, -, -, -, -, b1, b2, -, -⟩ := hI
      rcases (show s = 0 ∨ s = 1 by omega) with rfl | rfl
      · exact b1
      · exact b2
    obtain ⟨past', kept', h3, h4⟩ := out_yes hS0 hI.1 hH (nlt0 (n := z (18 + s) + w) (by omega)) hS' (Nat.le_add_right B 99)
    exact ⟨_, _, _, _, _, past', kept', h1, by rw [h2, h3, ob2_ev], h4⟩
theorem l_pass {B : Nat} (hB : 200000 ≤ B) (hB2 : B < 2000000000) {S : T6} {o k : Nat} {Ch : Nat → Option T6} {now past : Nat → Int32} {kept : Int32} (hN : NSt B S now) (hH : HSt B Ch o k past kept) (x : Int32) : ∃ r nu' qu' sc' lo' wt' o2 k2 now' past' kept', fX2_passTicks S.1 S.2.1 S.2.2.1 S.2.2.2.1 S.2.2.2.2.1 S.2.2.2.2.2 x 99999 = some (r, nu', qu', sc', lo', wt') ∧ fX5_pass now past kept x = some (r, now', past', kept') ∧ OuC B S o k Ch r (nu', S.2.1, qu', sc', lo', wt') o2 k2 now' past' kept' := by
  obtain ⟨z, rfl, hS⟩ := hN
  have hS0 := hS
  obtain ⟨a, v, q, c, l, t, rfl, hR, hq, hI, hZ⟩ := hS
  rcases pass_op hB hB2 x 99999 a v q c l t z hR hq hI (by omega) with ⟨r, hr, h1, h2⟩ | ⟨n, a', q', c', l', t', n1, n2, rfl, hn, h1, hR', hq', h2⟩
  · exact ⟨r, fI a, fI q, fI c, fI l, nI t, o, k, fI z, past, kept, h1, h2 past kept, out_no ⟨z, rfl, hS0⟩ hH hr⟩
  · have e0 := zpass_0 hB n 99999 z hI (by omega)
    have hZ' : ZN (zpass z n) := by
      intro g
      rw [e0] at g
      omega
    have hS' : SS B (fI a', fI v, fI q', fI c', fI l', nI t') (zpass z n) := ⟨_, _, _, _, _, _, rfl, hR', hq', hI.passed hB n hn, hZ'⟩
    obtain ⟨past', kept', h3, h4⟩ := out_yes hS0 hI.1 hH (nlt0 (n := zpass z n 0) (by omega)) hS' (Nat.le_refl B)
    exact ⟨_, _, _, _, _, _, _, _, _, past', kept', h1, by rw [h2, h3, ob2_ev], h4⟩
theorem l_flush {B : Nat} {S : T6} {o k : Nat} {Ch : Nat → Option T6} {now past : Nat → Int32} {kept : Int32} (hN : NSt B S now) (hH : HSt B Ch o k past kept) : ∃ r nu' qu' lo' o2 k2 now' past' kept', fX2_skipAll S.1 S.2.2.1 S.2.2.2.2.1 = some (r, nu', qu', lo') ∧ fX5_flush now past kept = some (r, now', past', kept') ∧ OuC B S o k Ch r (nu', S.2.1, qu', S.2.2.2.1, lo', S.2.2.2.2.2) o2 k2 now' past' kept' := by
  obtain ⟨z, rfl, hS⟩ := hN
  have hS0 := hS
  obtain ⟨a, v, q, c, l, t, rfl, hR, hq, hI, hZ⟩ := hS
  have hK := hI.KQ (by omega) (by omega) (by omega)
  obtain ⟨a', q', l', h1, hR', hq', h2⟩ := flush_op a v q c l t z hR hq hK
  have hZ' : ZN (zflush z (z 10)) := by
    intro g
    rw [zflush_lo 0 (by omega) (by omega) (by omega) (by omega)] at g
    rw [zflush_lo 15 (by omega) (by omega) (by omega) (by omega), zflush_lo 16 (by omega) (by omega) (by omega) (by omega)]
    exact hZ g
  have hS' : SS B (fI a', fI v, fI q', fI c, fI l', nI t) (zflush z (z 10)) := ⟨_, _, _, _, _, _, rfl, hR', hq', ZI.flush (by omega) (by omega) (z 10) z hI rfl, hZ'⟩
  obtain ⟨past', kept', h3, h4⟩ := out_yes hS0 hI.1 hH (nlt0 (n := z 10) (by have := hI.w10; omega)) hS' (Nat.le_refl B)
  exact ⟨_, _, _, _, _, _, _, past', kept', h1, by rw [h2, h3, ob2_ev], h4⟩
