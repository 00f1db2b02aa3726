/-! ===== reads, what-ifs, texts, undo and saving, both sides ===== -/
theorem ss_0 {B : Nat} {S : T6} {z : Nat → Nat} (h : SS B S z) : S.1 0 = nI (z 0) ∧ z 0 ≤ 99999 := by
  obtain ⟨a, v, q, c, l, t, rfl, hR, hq, hI, hZ⟩ := h
  obtain ⟨-, -, -, -, -, -, b0, -, -, -, -⟩ := hI
  have e0 : a 0 = z 0 := hR.1 0 (by omega)
  refine ⟨?_, b0⟩
  show fI a 0 = _
  rw [fI_ap, e0]
theorem l_waiting {B : Nat} {S : T6} {now : Nat → Int32} (hN : NSt B S now) (x1 x2 : Int32) : ∃ r, fX4_waiting S.1 S.2.2.1 x1 x2 = some r ∧ fX5_waiting now x1 x2 = some r := by
  obtain ⟨z, rfl, a, v, q, c, l, t, rfl, hR, hq, hI, hZ⟩ := hN
  exact waiting_c a q z hR.1 hR.2.2.1 hI.w10 x1 x2
theorem l_row {B : Nat} {S : T6} {now : Nat → Int32} (hN : NSt B S now) (x1 x2 : Int32) : ∃ r, fX4_row S.1 S.2.2.2.1 x1 x2 = some r ∧ fX5_row now x1 x2 = some r := by
  obtain ⟨z, rfl, a, v, q, c, l, t, rfl, hR, hq, hI, hZ⟩ := hN
  obtain ⟨-, ⟨-, -, -, -, -, -, -, h4, -, -, -, -⟩, -⟩ := hI
  exact row_c a c z hR.1 hR.2.2.2.1 h4 x1 x2
theorem l_ofMissing {B : Nat} {S : T6} {now : Nat → Int32} (hN : NSt B S now) (x1 x2 : Int32) : ∃ r, fX4_ofMissing S.1 S.2.2.2.2.1 x1 x2 = some r ∧ fX5_ofMissing now x1 x2 = some r := by
  obtain ⟨z, rfl, a, v, q, c, l, t, rfl, hR, hq, hI, hZ⟩ := hN
  obtain ⟨-, -, ⟨i1, i2, -, -, -, -, -, -, i24, -⟩, -, -, -, b0, -⟩ := hI
  exact miss_c a l z hR.1 hR.2.2.2.2.1 (by omega) i24 x1 x2
theorem l_count {B : Nat} {S : T6} {now : Nat → Int32} (hN : NSt B S now) (pl hs x : Int32) : ∃ r, fX4_count S.1 pl hs x = some r ∧ fX5_count now hs pl x = some r := by
  obtain ⟨z, rfl, a, v, q, c, l, t, rfl, hR, hq, hI, hZ⟩ := hN
  exact count_c a z hR.1 pl hs x
theorem l_shown {B : Nat} {S : T6} {now : Nat → Int32} (hN : NSt B S now) : ∃ r, fX4_shown S.1 S.2.2.2.1 = some r ∧ fX5_shown now = some r := by
  obtain ⟨z, rfl, a, v, q, c, l, t, rfl, hR, hq, hI, hZ⟩ := hN
  obtain ⟨hz, ⟨-, -, -, -, -, -, -, h4, -, -, -, -⟩, -⟩ := hI
  exact shown_c a c z hR.1 hz hR.2.2.2.1 h4
theorem l_ratio {B : Nat} {S : T6} {now : Nat → Int32} (hN : NSt B S now) : ∃ r, fX4_ratio S.1 = some r ∧ fX5_ratio now = some r := by
  obtain ⟨z, rfl, a, v, q, c, l, t, rfl, hR, hq, hI, hZ⟩ := hN
  obtain ⟨-, ⟨i1, i2, i3, i4, -, -, -, -, -, -, -, -⟩, -⟩ := hI
  exact ratio_c a z hR.1 i1 i2 i3 i4
theorem l_fill {B : Nat} {S : T6} {now : Nat → Int32} (hN : NSt B S now) : ∃ r, fX4_fill S.1 S.2.2.2.2.2 = some r ∧ fX5_fill now = some r := by
  obtain ⟨z, rfl, a, v, q, c, l, t, rfl, hR, hq, hI, hZ⟩ := hN
  obtain ⟨-, -, -, -, -, b25, b0, -⟩ := hI
  have et : t = z 25 := hR.2.2.2.2.2
  subst et
  exact fill_c a z hR.1 (by omega) (by omega)
theorem l_would {B : Nat} (hB : 200000 ≤ B) (hB2 : B < 2000000000) {S : T6} {now : Nat → Int32} (hN : NSt B S now) (V : T6) (thn : Nat → Int32) (x1 x2 : Int32) : ∃ r Y thn', fX4_would S.1 S.2.1 S.2.2.1 S.2.2.2.1 S.2.2.2.2.1 S.2.2.2.2.2 V.1 V.2.1 V.2.2.1 V.2.2.2.1 V.2.2.2.2.1 V.2.2.2.2.2 x1 x2 = some (w6 r Y) ∧ fX5_would now thn x1 x2 = some (r, thn') := by
  obtain ⟨z, rfl, a, v, q, c, l, t, rfl, hR, hq, hI, hZ⟩ := hN
  exact would_c hB hB2 99999 (by omega) a v q c l t z hR hq hI V thn x1 x2
theorem l_leastRoom {B : Nat} (hB : 200000 ≤ B) (hB2 : B < 2000000000) {S : T6} {now : Nat → Int32} (hN : NSt B S now) (V : T6) (thn : Nat → Int32) (x1 : Int32) : ∃ r Y thn', fX4_leastRoom S.1 S.2.1 S.2.2.1 S.2.2.2.1 S.2.2.2.2.1 S.2.2.2.2.2 V.1 V.2.1 V.2.2.1 V.2.2.2.1 V.2.2.2.2.1 V.2.2.2.2.2 x1 = some (w6 r Y) ∧ fX5_leastRoom now thn x1 = some (r, thn') := by
  obtain ⟨z, rfl, a, v, q, c, l, t, rfl, hR, hq, hI, hZ⟩ := hN
  exact leastRoom_c hB hB2 99999 (by omega) a v q c l t z hR hq hI V thn x1
theorem l_bestOut {B : Nat} (hB : 200000 ≤ B) (hB2 : B < 2000000000) {S : T6} {now : Nat → Int32} (hN : NSt B S now) (V : T6) (thn : Nat → Int32) (x1 x2 : Int32) : ∃ r Y thn', fX4_bestOut S.1 S.2.1 S.2.2.1 S.2.2.2.1 S.2.2.2.2.1 S.2.2.2.2.2 V.1 V.2.1 V.2.2.1 V.2.2.2.1 V.2.2.2.2.1 V.2.2.2.2.2 x1 x2 = some (w6 r Y) ∧ fX5_bestOut now thn x1 x2 = some (r, thn') := by
  obtain ⟨z, rfl, a, v, q, c, l, t, rfl, hR, hq, hI, hZ⟩ := hN
  exact bestOut_c hB hB2 99999 (by omega) a v q c l t z hR hq hI V thn x1 x2
theorem l_put {ch mpad : Nat → Int32} {pl mpl : Int32} (h : PPd ch pl mpad mpl) (x : Int64) : ∃ r ch' pl' mpad' mpl', fX4_put ch pl x = some (r, ch', pl') ∧ fX5_put mpad mpl x = some (r, mpad', mpl') ∧ PPd ch' pl' mpad' mpl' := by
  obtain ⟨p, n, hP, rfl, rfl⟩ := h
  obtain ⟨r, p', n', ch', mpad', h1, h2, h3⟩ := put_c hP x
  exact ⟨r, ch', nI n', mpad', nI n', h1, h2, p', n', h3, rfl, rfl⟩
theorem l_wipe {ch mpad : Nat → Int32} {pl mpl : Int32} (h : PPd ch pl mpad mpl) : ∃ r pl' mpl', fX4_wipe pl = some (r, pl') ∧ fX5_wipe mpl = some (r, mpl') ∧ PPd ch pl' mpad mpl' := by
  obtain ⟨p, n, hP, rfl, rfl⟩ := h
  obtain ⟨r, h1, h2, h3⟩ := wipe_c hP
  exact ⟨r, nI 0, nI 0, h1, h2, p, 0, h3, rfl, rfl⟩
theorem l_fault {ch mpad : Nat → Int32} {pl mpl : Int32} (h : PPd ch pl mpad mpl) (pa po pf ps mat ordn : Int32) (ords : Nat → Int32) : ∃ r pa' po' pf' ps' mat' ords' ordn', fX4_fault ch pl pa po pf ps = some (r, pa', po', pf', ps') ∧ fX5_fault mpad mpl mat ords ordn = some (r, mat', ords', ordn') := by
  obtain ⟨p, n, hP, rfl, rfl⟩ := h
  exact fault_c hP pa po pf ps mat ordn ords
theorem mul234 (x : Nat) : (234 : Int32) * nI x = nI (234 * x) := by rw [li_234, pk_mul]
theorem l_undo {B : Nat} {S : T6} {o k : Nat} {Ch : Nat → Option T6} {now past : Nat → Int32} {kept : Int32} (hN : NSt B S now) (hH : HSt B Ch o k past kept) (h0 : 0 < k) : ∃ V now', Ch ((o + (k - 1)) % 7) = some V ∧ fX5_undo now past kept = some (nI (k - 1), now', nI (k - 1)) ∧ (∀ Y, CP V Y → NSt B Y now') ∧ HSt B Ch o (k - 1) past (nI (k - 1)) := by
  obtain ⟨z, rfl, hS⟩ := hN
  obtain ⟨P, rfl, rfl, hR⟩ := hH
  have hS0 := hS
  obtain ⟨a, v, q, c, l, t, -, -, -, hI, -⟩ := hS
  have hk := hR.2.1
  obtain ⟨V, hV, hVS⟩ := hR.2.2.2 (k - 1) (by omega)
  refine ⟨V, fI fun j => if 0 ≤ j ∧ j < 0 + 234 then P (234 * (k - 1) + (j - 0)) else z j, hV, ?_, fun Y hY => ⟨_, rfl, hVS.cp hY (fun j hj => ?_) (fun j => ?_)⟩, P, rfl, rfl, hR.1, by omega, hR.2.2.1, fun i hi => hR.2.2.2 i (by omega)⟩
  · unfold fX5_undo
    rw [if_neg (nI_ne0 (by omega) (by omega)), nm_ev, show nI k - 1 = nI (k - 1) from nI_sub (b := 1) (by omega), mul234]
    have hl := lays_z P z 1404 234 (234 * (k - 1)) 0 (by omega) (by omega) (by omega) (by omega)
    rw [← li_0] at hl
    rw [hl, ob1_ev]
  · show (if 0 ≤ j ∧ j < 0 + 234 then P (234 * (k - 1) + (j - 0)) else z j) = slc P (k - 1) j
    rw [if_pos (by omega)]
    rfl
  · show (if 0 ≤ j ∧ j < 0 + 234 then P (234 * (k - 1) + (j - 0)) else z j) < 4294967296
    split
    · exact hR.2.2.1 _
    · exact hI.1 j
theorem l_undo0 {B : Nat} {Ch : Nat → Option T6} {o : Nat} {now past : Nat → Int32} {kept : Int32} (hH : HSt B Ch o 0 past kept) : kept = nI 0 ∧ fX5_undo now past kept = some (-5, now, nI 0) := by
  obtain ⟨P, rfl, rfl, hR⟩ := hH
  refine ⟨rfl, ?_⟩
  unfold fX5_undo
  rw [if_pos (by decide)]
theorem sls_agree {B : Nat} {c : Option T6} {hd : Int32} {w w' : Nat → Nat} (h : SLs B c hd w) (hz : ∀ j, j < 234 → w' j = w j) (hb : ∀ j, w' j < 4294967296) : SLs B c hd w' := by
  rcases h with h | ⟨V, h1, h2, h3⟩
  · exact Or.inl h
  · exact Or.inr ⟨V, h1, h2, h3.agree hz hb⟩
theorem in01 (x : Int32) : fX4_isWithin x 0 1 = some 0 ∨ ∃ n, n < 2 ∧ x = nI n ∧ fX4_isWithin x 0 1 = some 1 := by
  rcases in_nI x 0 1 (by omega) (by omega) with h | ⟨n, h1, -, h2, h3⟩
  · exact Or.inl h
  · exact Or.inr ⟨n, by omega, h1, h3⟩
theorem l_save_bad {x : Int32} (h : fX4_isWithin x 0 1 = some 0) (now slt held : Nat → Int32) : fX5_save now slt held x = some (-2, slt, held) := by
  unfold fX5_save
  rw [in_eq, h, ob1_ev, if_pos rfl]
theorem nbool : vp_nar .boolean 1 = 1 := by decide
theorem l_save {B : Nat} {S : T6} {Cl : Nat → Option T6} {now slt held : Nat → Int32} (hN : NSt B S now) (hL : LSl B Cl slt held) (n : Nat) (hn : n < 2) (h : fX4_isWithin (nI n) 0 1 = some 1) : ∃ slt' held', fX5_save now slt held (nI n) = some (S.1 0, slt', held') ∧ ∀ Y, CP S Y → LSl B (va_up Cl n (some Y)) slt' held' := by
  obtain ⟨z, rfl, hS⟩ := hN
  obtain ⟨L, rfl, hb, hl⟩ := hL
  have hzb : ∀ j, z j < 4294967296 := by
    obtain ⟨a, v, q, c, l, t, -, -, -, hI, -⟩ := hS
    exact hI.1
  have hb' : ∀ j, (if 234 * n ≤ j ∧ j < 234 * n + 234 then z (0 + (j - 234 * n)) else L j) < 4294967296 := by
    intro j
    split
    · exact hzb _
    · exact hb j
  refine ⟨fI fun j => if 234 * n ≤ j ∧ j < 234 * n + 234 then z (0 + (j - 234 * n)) else L j, upd held n (vp_nar .boolean 1), ?_, fun Y hY => ⟨_, rfl, hb', fun i hi => ?_⟩⟩
  · unfold fX5_save
    have hx := lays_z z L 234 468 0 (234 * n) (by omega) (by omega) (by omega) (by omega)
    rw [← li_0] at hx
    rw [in_eq, h, ob1_ev, if_neg n10, mul234, hx, ob1_ev, chk_nI hn (by omega), nm_ev, fI_ap, (ss_0 hS).1]
  · by_cases g : i = n
    · subst g
      refine Or.inr ⟨Y, va_up_self _ _ _, ?_, hS.cp hY (fun j hj => ?_) (fun j => hb' _)⟩
      · unfold upd
        rw [if_pos rfl, nbool]
      · show (if 234 * i ≤ 234 * i + j ∧ 234 * i + j < 234 * i + 234 then z (0 + (234 * i + j - 234 * i)) else L (234 * i + j)) = z j
        rw [if_pos (by omega), show 0 + (234 * i + j - 234 * i) = j by omega]
    · have e1 : va_up Cl n (some Y) i = Cl i := va_up_ne _ _ g
      have e2 : upd held n (vp_nar .boolean 1) i = held i := by
        unfold upd
        rw [if_neg g]
      rw [e1, e2]
      refine sls_agree (hl i hi) (fun j hj => ?_) (fun j => hb' _)
      show (if 234 * n ≤ 234 * i + j ∧ 234 * i + j < 234 * n + 234 then z (0 + (234 * i + j - 234 * n)) else L (234 * i + j)) = L (234 * i + j)
      rw [if_neg (by omega)]
theorem l_rest_bad {x : Int32} (h : fX4_isWithin x 0 1 = some 0) (now past : Nat → Int32) (kept : Int32) (slt held : Nat → Int32) : fX5_restore now past kept slt held x = some (-2, now, past, kept) := by
  unfold fX5_restore
  rw [in_eq, h, ob1_ev, if_pos rfl]
theorem l_rest_null {B : Nat} {Cl : Nat → Option T6} {slt held : Nat → Int32} (hL : LSl B Cl slt held) (n : Nat) (hn : n < 2) (h : fX4_isWithin (nI n) 0 1 = some 1) (hC : Cl n = none) (now past : Nat → Int32) (kept : Int32) : fX5_restore now past kept slt held (nI n) = some (-5, now, past, kept) := by
  obtain ⟨L, rfl, hb, hl⟩ := hL
  have h0 : held n = 0 := by
    rcases hl n hn with g | ⟨V, g, -, -⟩
    · exact g.2
    · rw [hC] at g
      cases g
  unfold fX5_restore
  rw [in_eq, h, ob1_ev, if_neg n10, chk_nI hn (by omega), if_pos h0]
theorem l_rest {B : Nat} {S V : T6} {o k : Nat} {Ch Cl : Nat → Option T6} {now past : Nat → Int32} {kept : Int32} {slt held : Nat → Int32} (hN : NSt B S now) (hH : HSt B Ch o k past kept) (hL : LSl B Cl slt held) (n : Nat) (hn : n < 2) (h : fX4_isWithin (nI n) 0 1 = some 1) (hC : Cl n = some V) : ∃ r now' past' kept', fX5_restore now past kept slt held (nI n) = some (r, now', past', kept') ∧ ¬ r < 0 ∧ (∀ Y2, CP V Y2 → Y2.1 0 = r ∧ NSt B Y2 now') ∧ ∀ Y, CP S Y → HSt B (va_up Ch ((o + k) % 7) (some Y)) (oNx o k) (kNx k) past' kept' := by
  obtain ⟨z, rfl, hS⟩ := hN
  obtain ⟨L, rfl, hb, hl⟩ := hL
  have hzb : ∀ j, z j < 4294967296 := by
    obtain ⟨a, v, q, c, l, t, -, -, -, hI, -⟩ := hS
    exact hI.1
  obtain ⟨h1, hV⟩ : held n = 1 ∧ SS B V (slc L n) := by
    rcases hl n hn with g | ⟨V', g, g1, g2⟩
    · rw [hC] at g
      cases g.1
    · rw [hC] at g
      cases g
      exact ⟨g1, g2⟩
  obtain ⟨past', kept', h3, h4⟩ := hs_rec hH z hzb
  have hb' : ∀ j, (if 0 ≤ j ∧ j < 0 + 234 then L (234 * n + (j - 0)) else z j) < 4294967296 := by
    intro j
    split
    · exact hb _
    · exact hzb j
  have hag : ∀ j, j < 234 → (if 0 ≤ j ∧ j < 0 + 234 then L (234 * n + (j - 0)) else z j) = slc L n j := by
    intro j hj
    rw [if_pos (by omega)]
    rfl
  refine ⟨nI (slc L n 0), fI fun j => if 0 ≤ j ∧ j < 0 + 234 then L (234 * n + (j - 0)) else z j, past', kept', ?_, nlt0 (by have := (ss_0 hV).2; omega), fun Y2 hY2 => ⟨?_, _, rfl, hV.cp hY2 hag hb'⟩, fun Y hY => h4 Y (hS.cp hY (fun j hj => rfl) hzb)⟩
  · unfold fX5_restore
    have hx := lays_z L z 468 234 (234 * n) 0 (by omega) (by omega) (by omega) (by omega)
    rw [← li_0] at hx
    rw [in_eq, h, ob1_ev, if_neg n10, chk_nI hn (by omega), h1, if_neg n10, h3, ob2_ev, mul234, hx, ob1_ev]
    rfl
  · exact (ss_0 (hV.cp hY2 (fun j hj => rfl) (fun j => hb _))).1
theorem l_carry_bad {ch mpad : Nat → Int32} {pl mpl : Int32} (h : PPd ch pl mpad mpl) (pa po pf ps mat ordn : Int32) (ords now past : Nat → Int32) (kept : Int32) : (∃ rv pa1 po1 pf1 ps1 mat' ords' ordn', fX1_findFault ch pl pa po pf ps = some (rv, pa1, po1, pf1, ps1) ∧ ¬ rv = -6 ∧ fX5_carryOut now past kept mpad mpl mat ords ordn = some (-3, now, past, kept, mpl, mat', ords', ordn')) ∨ ∃ (p : Nat → Nat) (n k' M : Nat) (po1 pf1 ps1 : Int32) (ords' : Nat → Int32), PD p n ch mpad ∧ pl = nI n ∧ fX1_findFault ch pl pa po pf ps = some (-6, nI k', po1, pf1, ps1) ∧ M ≤ 40 ∧ chain p n ords' M M 0 ∧ fX5_carryOut now past kept mpad mpl mat ords ordn = ob2 (fX5_records now past kept) fun past_6 kept_7 => fX5_carryOut_21 KF now past_6 kept_7 mpad 0 (nI n) ords' (nI M) 0 := by
  obtain ⟨p, n, hP, rfl, rfl⟩ := h
  rcases text_c hP pa po pf ps mat ordn ords with ⟨k', po', pf', ps', ords', M, h1, h2, h3, h4, h5⟩ | ⟨k', po', pf', ps', ords', M, h1, h2, h3⟩
  · refine Or.inr ⟨p, n, k', M, po', pf', ps', ords', hP, rfl, h1, h4, h5, ?_⟩
    unfold fX5_carryOut
    rw [h2, ob4_ev, if_neg n10]
  · refine Or.inl ⟨nI k', nI k', po', pf', ps', nI k', ords', nI M, h1, fun g => ?_, ?_⟩
    · have := nlt0 (n := k') (by omega)
      rw [g] at this
      exact this (by decide)
    · unfold fX5_carryOut
      rw [h2, ob4_ev, if_pos rfl]
theorem l_carry {B : Nat} (hB : 200000 ≤ B) (hB2 : B + 5000 < 2000000000) {S : T6} {o k : Nat} {Ch : Nat → Option T6} {now past : Nat → Int32} {kept : Int32} (hN : NSt B S now) (hH : HSt B Ch o k past kept) {p : Nat → Nat} {n M : Nat} {ch mpad ords : Nat → Int32} (hP : PD p n ch mpad) (hM : M ≤ 40) (hc : chain p n ords M M 0) (po pf ps mat : Int32) : ∃ dn S' pa2 po2 pf2 ps2 o2 k2 now' past' kept', fCO ch (nI n) 5000 S 0 po pf ps 0 1 0 = some (dn, S', pa2, po2, pf2, ps2) ∧ (ob2 (fX5_records now past kept) fun past_6 kept_7 => fX5_carryOut_21 KF now past_6 kept_7 mpad 0 mat ords (nI M) 0) = some (dn, now', past', kept', 0, mat, ords, nI M) ∧ OuC (B + 5000) S o k Ch dn S' o2 k2 now' past' kept' := by
  obtain ⟨z, rfl, hS⟩ := hN
  have hzb : ∀ j, z j < 4294967296 := by
    obtain ⟨a, v, q, c, l, t, -, -, -, hI, -⟩ := hS
    exact hI.1
  obtain ⟨past', kept', h3, h4⟩ := hs_rec hH z hzb
  obtain ⟨c, S', pa', po', pf', ps', z', g1, g2, g3, g4⟩ := co_loop hP ords past' kept' 0 mat M hM 5000 KF M 0 B S z po pf ps hc (Nat.le_refl M) (by omega) (by omega) (by rw [KF_eq]; omega) hS hB (by omega)
  rw [Nat.sub_self] at g2 g3
  refine ⟨nI c, S', pa', po', pf', ps', oNx o k, kNx k, fI z', past', kept', g2, ?_, keep_pos o k (hs_b hH).1 (hs_b hH).2 _ (nlt0 (by omega)), ⟨z', rfl, g4.mono (by omega)⟩, fun Y hY => hs_mono (h4 Y (hS.cp hY (fun j hj => rfl) hzb)) (by omega)⟩
  rw [h3, ob2_ev]
  exact g3
/-! ===== the two at the start ===== -/
def z0N : Nat → Nat := fun j => if 106 ≤ j ∧ j < 202 then NON else if 26 ≤ j ∧ j < 42 then 10 * (j - 26) else if j = 23 then NON else if j = 7 then 255 else if j = 4 then 4 else if j = 3 then 4 else if j = 2 then 5 else if j = 1 then 10 else 0
theorem z0_lt : ∀ j, z0N j < 4294967296 := by
  intro j
  unfold z0N NON
  split
  · omega
  split
  · omega
  split
  · omega
  split
  · omega
  split
  · omega
  split
  · omega
  split
  · omega
  split
  · omega
  · omega
theorem ten_mul (k : Nat) : (10 : Int32) * nI k = nI (10 * k) := by rw [li_10, pk_mul]
theorem m6N : (-6 : Int32) = nI NON := by
  unfold NON
  decide
theorem z0_now {now : Nat → Int32} (hM : NewM now) : now = fI z0N := by
  funext j
  rw [hM j, fI_ap]
  unfold z0N mB
  by_cases h1 : 106 ≤ j ∧ j < 202
  · rw [if_pos h1, if_pos h1]
    exact m6N
  rw [if_neg h1, if_neg h1]
  by_cases h2 : 26 ≤ j ∧ j < 42
  · rw [if_pos h2, if_pos h2]
    exact ten_mul _
  rw [if_neg h2, if_neg h2]
  by_cases h3 : j = 23
  · rw [if_pos h3, if_pos h3]
    exact m6N
  rw [if_neg h3, if_neg h3]
  by_cases h4 : j = 7
  · rw [if_pos h4, if_pos h4]
    exact li_255
  rw [if_neg h4, if_neg h4]
  by_cases h5 : j = 4
  · rw [if_pos h5, if_pos h5]
    exact li_4
  rw [if_neg h5, if_neg h5]
  by_cases h6 : j = 3
  · rw [if_pos h6, if_pos h6]
    exact li_4
  rw [if_neg h6, if_neg h6]
  by_cases h7 : j = 2
  · rw [if_pos h7, if_pos h7]
    exact li_5
  rw [if_neg h7, if_neg h7]
  by_cases h8 : j = 1
  · rw [if_pos h8, if_pos h8]
    exact li_10
  rw [if_neg h8, if_neg h8]
  exact li_0
theorem z0_zero (j : Nat) (h : j = 0 ∨ 5 ≤ j ∧ j ≤ 6 ∨ 8 ≤ j ∧ j ≤ 22 ∨ 24 ≤ j ∧ j ≤ 25) : z0N j = 0 := by
  unfold z0N
  rw [if_neg (by omega), if_neg (by omega), if_neg (by omega), if_neg (by omega), if_neg (by omega), if_neg (by omega), if_neg (by omega), if_neg (by omega)]
theorem fI_val {a : Nat → Nat} (ha : ∀ k, a k < 4294967296) {k x : Nat} (hx : x < 4294967296) (h : fI a k = nI x) : a k = x := (nI_eq32 (ha k) hx).1 h
theorem l_new {S : T6} {now : Nat → Int32} (hS : NewS S) (hM : NewM now) : NSt 200000 S now := by
  obtain ⟨nu, va, qu, sc, lo, wt⟩ := S
  obtain ⟨n1, n2, n3, n4, n5, n6, n7, n8⟩ := hS
  obtain ⟨a, rfl, ha⟩ := fI_of nu
  obtain ⟨v, rfl, hv⟩ := fI_of va
  obtain ⟨q, rfl, hq⟩ := fI_of qu
  obtain ⟨c, rfl, hc⟩ := fI_of sc
  obtain ⟨l, rfl, hl⟩ := fI_of lo
  have n8 : wt = nI 0 := n8
  subst n8
  have zz : ∀ j, (j = 0 ∨ 5 ≤ j ∧ j ≤ 6 ∨ 8 ≤ j ∧ j ≤ 22 ∨ 24 ≤ j ∧ j ≤ 25) → z0N j = 0 := z0_zero
  have s1 : z0N 1 = 10 := by decide
  have s2 : z0N 2 = 5 := by decide
  have s3 : z0N 3 = 4 := by decide
  have s4 : z0N 4 = 4 := by decide
  have s7 : z0N 7 = 255 := by decide
  have b0 := zz 0 (by omega)
  have b5 := zz 5 (by omega)
  have b6 := zz 6 (by omega)
  have b8 := zz 8 (by omega)
  have b9 := zz 9 (by omega)
  have b10 := zz 10 (by omega)
  have b11 := zz 11 (by omega)
  have b12 := zz 12 (by omega)
  have b13 := zz 13 (by omega)
  have b14 := zz 14 (by omega)
  have b15 := zz 15 (by omega)
  have b16 := zz 16 (by omega)
  have b17 := zz 17 (by omega)
  have b18 := zz 18 (by omega)
  have b19 := zz 19 (by omega)
  have b20 := zz 20 (by omega)
  have b21 := zz 21 (by omega)
  have b22 := zz 22 (by omega)
  have b24 := zz 24 (by omega)
  have b25 := zz 25 (by omega)
  refine ⟨z0N, z0_now hM, a, v, q, c, l, 0, rfl, ⟨?_, ?_, ?_, ?_, ?_, b25.symm⟩, hq, ⟨z0_lt, ⟨by omega, by omega, by omega, by omega, by omega, by omega, by omega, by omega, by omega, by omega, by omega, by omega⟩, ⟨by omega, by omega, by omega, by omega, by omega, by omega, by omega, by omega, by rw [b24, b12, if_pos (by omega)], by omega⟩, ?_, fun p hp => by omega, by omega, by omega, by omega, by omega, by omega, by omega⟩, fun _ => ⟨b15, b16⟩⟩
  · intro j hj
    by_cases g1 : j < 15
    · rw [fI_val ha (x := 0) (by omega) (n2 j g1)]
      refine (zz (mu j) ?_).symm
      unfold mu
      split
      · omega
      · rw [if_pos (by omega)]
        omega
    by_cases g2 : j = 15
    · subst g2
      rw [fI_val ha (x := NON) (by unfold NON; omega) (n3.trans m6N)]
      rfl
    obtain ⟨i, rfl⟩ : ∃ i, j = 16 + i := ⟨j - 16, by omega⟩
    have hi := n1 i (by omega)
    rcases s8 (show i < 8 by omega) with rfl | rfl | rfl | rfl | rfl | rfl | rfl | rfl
    · exact (fI_val ha (x := 10) (by omega) hi).trans s1.symm
    · exact (fI_val ha (x := 5) (by omega) hi).trans s2.symm
    · exact (fI_val ha (x := 4) (by omega) hi).trans s3.symm
    · exact (fI_val ha (x := 4) (by omega) hi).trans s4.symm
    · exact (fI_val ha (x := 0) (by omega) hi).trans b5.symm
    · exact (fI_val ha (x := 0) (by omega) hi).trans b6.symm
    · exact (fI_val ha (x := 255) (by omega) hi).trans s7.symm
    · exact (fI_val ha (x := 0) (by omega) hi).trans b8.symm
  · intro k hk
    have e1 := n4 k hk
    rw [ten_mul] at e1
    rw [fI_val hv (x := 10 * k) (by omega) e1]
    unfold z0N
    rw [if_neg (by omega), if_pos (by omega)]
    omega
  · intro p x hp
    omega
  · intro j hj
    rw [fI_val hc (x := NON) (by unfold NON; omega) ((n6 j hj).trans m6N)]
    unfold z0N
    rw [if_pos (by omega)]
  · intro j x _ hj
    omega
  · intro k hk
    unfold z0N
    rw [if_neg (by omega), if_pos (by omega)]
    omega
theorem hs_new (B : Nat) : HSt B (fun _ => none) 0 0 (fun _ => 0) 0 := ⟨fun _ => 0, rfl, rfl, by omega, by omega, fun j => by show 0 < 4294967296; omega, fun i hi => by omega⟩
theorem lsl_new (B : Nat) : LSl B (fun _ => none) (fun _ => 0) (fun _ => 0) := ⟨fun _ => 0, rfl, fun j => by show 0 < 4294967296; omega, fun i hi => Or.inl ⟨rfl, rfl⟩⟩
