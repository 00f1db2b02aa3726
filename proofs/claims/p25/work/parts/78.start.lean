/-! ===== the law: what its start gives ===== -/
set_option maxRecDepth 100000 in
theorem nw_F : ∀ t ∈ nwF, Cond.fieldLinkNest t.1 t.2.1 t.2.2.1 t.2.2.2.1 t.2.2.2.2.1 t.2.2.2.2.2 ∈ lw_tbl := List.forall_mem_cons.mpr ⟨List.mem_of_getElem? (i := 49) (by decide +kernel), List.forall_mem_cons.mpr ⟨List.mem_of_getElem? (i := 52) (by decide +kernel), List.forall_mem_cons.mpr ⟨List.mem_of_getElem? (i := 55) (by decide +kernel), List.forall_mem_cons.mpr ⟨List.mem_of_getElem? (i := 57) (by decide +kernel), List.forall_mem_cons.mpr ⟨List.mem_of_getElem? (i := 59) (by decide +kernel), List.forall_mem_cons.mpr ⟨List.mem_of_getElem? (i := 85) (by decide +kernel), List.forall_mem_cons.mpr ⟨List.mem_of_getElem? (i := 100) (by decide +kernel), List.forall_mem_cons.mpr ⟨List.mem_of_getElem? (i := 285) (by decide +kernel), List.forall_mem_cons.mpr ⟨List.mem_of_getElem? (i := 287) (by decide +kernel), fun _ h => absurd h List.not_mem_nil⟩⟩⟩⟩⟩⟩⟩⟩⟩
set_option maxRecDepth 100000 in
theorem nw_M : ∀ t ∈ nwM, Cond.methodLinkNest t.1 t.2.1 t.2.2.1 t.2.2.2 ∈ lw_tbl := List.forall_mem_cons.mpr ⟨List.mem_of_getElem? (i := 77) (by decide +kernel), List.forall_mem_cons.mpr ⟨List.mem_of_getElem? (i := 95) (by decide +kernel), List.forall_mem_cons.mpr ⟨List.mem_of_getElem? (i := 139) (by decide +kernel), List.forall_mem_cons.mpr ⟨List.mem_of_getElem? (i := 162) (by decide +kernel), fun _ h => absurd h List.not_mem_nil⟩⟩⟩⟩
set_option maxRecDepth 100000 in
theorem law_NW {args : Array Value} {s : State} (hts : ∀ w ∈ lw_tbl, w.before args s = true) : NW s := ⟨fun t ht => va_Nw.of rfl (hts _ (nw_F t ht)), fun t ht => va_Nw.of rfl (hts _ (nw_M t ht)), va_AO.of (hts (Cond.arrayOver (.object RX2)) (List.mem_of_getElem? (i := 74) (by decide +kernel)))⟩
set_option maxHeartbeats 4000000 in
set_option maxRecDepth 100000 in
theorem law_FIRST {b : Nat} {s : State} (hts : ∀ w ∈ lw_tbl, w.before #[Value.ref b] s = true) (hg : (Jvm.Cond.and given_1 narrow_1).before #[Value.ref b] s = true) : SF1 "FIRST_SETTINGS" sfFirst (fun q : Nat => s.heap.size ≤ q) s s.heap := by
  have hs := flat_of_before _ hg
  have hA : ∀ a : Nat, a < s.heap.size → ¬ (fun q : Nat => s.heap.size ≤ q) a := fun a ha => Nat.not_le.mpr ha
  have h1 : (Cond.arrayOf (.static RX4 "FIRST_SETTINGS" "[I") .int).before #[Value.ref b] s = true := hs _ (by decide +kernel)
  have h2 : (Cond.eq (.length (.static RX4 "FIRST_SETTINGS" "[I")) (.int 8)).before #[Value.ref b] s = true := hs _ (by decide +kernel)
  have e0 : (Cond.eq (.elem (.static RX4 "FIRST_SETTINGS" "[I") (.int 0)) (.int (sfFirst 0))).before #[Value.ref b] s = true := hs _ (by decide +kernel)
  have e1 : (Cond.eq (.elem (.static RX4 "FIRST_SETTINGS" "[I") (.int 1)) (.int (sfFirst 1))).before #[Value.ref b] s = true := hs _ (by decide +kernel)
  have e2 : (Cond.eq (.elem (.static RX4 "FIRST_SETTINGS" "[I") (.int 2)) (.int (sfFirst 2))).before #[Value.ref b] s = true := hs _ (by decide +kernel)
  have e3 : (Cond.eq (.elem (.static RX4 "FIRST_SETTINGS" "[I") (.int 3)) (.int (sfFirst 3))).before #[Value.ref b] s = true := hs _ (by decide +kernel)
  have e4 : (Cond.eq (.elem (.static RX4 "FIRST_SETTINGS" "[I") (.int 4)) (.int (sfFirst 4))).before #[Value.ref b] s = true := hs _ (by decide +kernel)
  have e5 : (Cond.eq (.elem (.static RX4 "FIRST_SETTINGS" "[I") (.int 5)) (.int (sfFirst 5))).before #[Value.ref b] s = true := hs _ (by decide +kernel)
  have e6 : (Cond.eq (.elem (.static RX4 "FIRST_SETTINGS" "[I") (.int 6)) (.int (sfFirst 6))).before #[Value.ref b] s = true := hs _ (by decide +kernel)
  have e7 : (Cond.eq (.elem (.static RX4 "FIRST_SETTINGS" "[I") (.int 7)) (.int (sfFirst 7))).before #[Value.ref b] s = true := hs _ (by decide +kernel)
  obtain ⟨t, ht, hT⟩ := va_Tof (tm := .static RX4 "FIRST_SETTINGS" "[I") (ty := .int) (N := 8) (f := fun j => .int (sfFirst j)) (A := fun q : Nat => s.heap.size ≤ q) (by decide) h1 (va_eqt h2) (fun j hj => by
    rcases (show j = 0 ∨ j = 1 ∨ j = 2 ∨ j = 3 ∨ j = 4 ∨ j = 5 ∨ j = 6 ∨ j = 7 by omega) with rfl | rfl | rfl | rfl | rfl | rfl | rfl | rfl
    · exact va_eqt e0
    · exact va_eqt e1
    · exact va_eqt e2
    · exact va_eqt e3
    · exact va_eqt e4
    · exact va_eqt e5
    · exact va_eqt e6
    · exact va_eqt e7) hA
  exact ⟨t, va_Zref (hts (Cond.laysStatic RX4 "FIRST_SETTINGS" "[I") (List.mem_of_getElem? (i := 50) (by decide +kernel))) (hts (Cond.initialized RX4) (List.mem_of_getElem? (i := 11) (by decide +kernel))) ht hA, hT⟩
set_option maxHeartbeats 4000000 in
set_option maxRecDepth 100000 in
theorem law_LEAST {b : Nat} {s : State} (hts : ∀ w ∈ lw_tbl, w.before #[Value.ref b] s = true) (hg : (Jvm.Cond.and given_1 narrow_1).before #[Value.ref b] s = true) : SF1 "LEAST_SETTINGS" sfLeast (fun q : Nat => s.heap.size ≤ q) s s.heap := by
  have hs := flat_of_before _ hg
  have hA : ∀ a : Nat, a < s.heap.size → ¬ (fun q : Nat => s.heap.size ≤ q) a := fun a ha => Nat.not_le.mpr ha
  have h1 : (Cond.arrayOf (.static RX4 "LEAST_SETTINGS" "[I") .int).before #[Value.ref b] s = true := hs _ (by decide +kernel)
  have h2 : (Cond.eq (.length (.static RX4 "LEAST_SETTINGS" "[I")) (.int 8)).before #[Value.ref b] s = true := hs _ (by decide +kernel)
  have e0 : (Cond.eq (.elem (.static RX4 "LEAST_SETTINGS" "[I") (.int 0)) (.int (sfLeast 0))).before #[Value.ref b] s = true := hs _ (by decide +kernel)
  have e1 : (Cond.eq (.elem (.static RX4 "LEAST_SETTINGS" "[I") (.int 1)) (.int (sfLeast 1))).before #[Value.ref b] s = true := hs _ (by decide +kernel)
  have e2 : (Cond.eq (.elem (.static RX4 "LEAST_SETTINGS" "[I") (.int 2)) (.int (sfLeast 2))).before #[Value.ref b] s = true := hs _ (by decide +kernel)
  have e3 : (Cond.eq (.elem (.static RX4 "LEAST_SETTINGS" "[I") (.int 3)) (.int (sfLeast 3))).before #[Value.ref b] s = true := hs _ (by decide +kernel)
  have e4 : (Cond.eq (.elem (.static RX4 "LEAST_SETTINGS" "[I") (.int 4)) (.int (sfLeast 4))).before #[Value.ref b] s = true := hs _ (by decide +kernel)
  have e5 : (Cond.eq (.elem (.static RX4 "LEAST_SETTINGS" "[I") (.int 5)) (.int (sfLeast 5))).before #[Value.ref b] s = true := hs _ (by decide +kernel)
  have e6 : (Cond.eq (.elem (.static RX4 "LEAST_SETTINGS" "[I") (.int 6)) (.int (sfLeast 6))).before #[Value.ref b] s = true := hs _ (by decide +kernel)
  have e7 : (Cond.eq (.elem (.static RX4 "LEAST_SETTINGS" "[I") (.int 7)) (.int (sfLeast 7))).before #[Value.ref b] s = true := hs _ (by decide +kernel)
  obtain ⟨t, ht, hT⟩ := va_Tof (tm := .static RX4 "LEAST_SETTINGS" "[I") (ty := .int) (N := 8) (f := fun j => .int (sfLeast j)) (A := fun q : Nat => s.heap.size ≤ q) (by decide) h1 (va_eqt h2) (fun j hj => by
    rcases (show j = 0 ∨ j = 1 ∨ j = 2 ∨ j = 3 ∨ j = 4 ∨ j = 5 ∨ j = 6 ∨ j = 7 by omega) with rfl | rfl | rfl | rfl | rfl | rfl | rfl | rfl
    · exact va_eqt e0
    · exact va_eqt e1
    · exact va_eqt e2
    · exact va_eqt e3
    · exact va_eqt e4
    · exact va_eqt e5
    · exact va_eqt e6
    · exact va_eqt e7) hA
  exact ⟨t, va_Zref (hts (Cond.laysStatic RX4 "LEAST_SETTINGS" "[I") (List.mem_of_getElem? (i := 286) (by decide +kernel))) (hts (Cond.initialized RX4) (List.mem_of_getElem? (i := 11) (by decide +kernel))) ht hA, hT⟩
set_option maxHeartbeats 4000000 in
set_option maxRecDepth 100000 in
theorem law_MOST {b : Nat} {s : State} (hts : ∀ w ∈ lw_tbl, w.before #[Value.ref b] s = true) (hg : (Jvm.Cond.and given_1 narrow_1).before #[Value.ref b] s = true) : SF1 "MOST_SETTINGS" sfMost (fun q : Nat => s.heap.size ≤ q) s s.heap := by
  have hs := flat_of_before _ hg
  have hA : ∀ a : Nat, a < s.heap.size → ¬ (fun q : Nat => s.heap.size ≤ q) a := fun a ha => Nat.not_le.mpr ha
  have h1 : (Cond.arrayOf (.static RX4 "MOST_SETTINGS" "[I") .int).before #[Value.ref b] s = true := hs _ (by decide +kernel)
  have h2 : (Cond.eq (.length (.static RX4 "MOST_SETTINGS" "[I")) (.int 8)).before #[Value.ref b] s = true := hs _ (by decide +kernel)
  have e0 : (Cond.eq (.elem (.static RX4 "MOST_SETTINGS" "[I") (.int 0)) (.int (sfMost 0))).before #[Value.ref b] s = true := hs _ (by decide +kernel)
  have e1 : (Cond.eq (.elem (.static RX4 "MOST_SETTINGS" "[I") (.int 1)) (.int (sfMost 1))).before #[Value.ref b] s = true := hs _ (by decide +kernel)
  have e2 : (Cond.eq (.elem (.static RX4 "MOST_SETTINGS" "[I") (.int 2)) (.int (sfMost 2))).before #[Value.ref b] s = true := hs _ (by decide +kernel)
  have e3 : (Cond.eq (.elem (.static RX4 "MOST_SETTINGS" "[I") (.int 3)) (.int (sfMost 3))).before #[Value.ref b] s = true := hs _ (by decide +kernel)
  have e4 : (Cond.eq (.elem (.static RX4 "MOST_SETTINGS" "[I") (.int 4)) (.int (sfMost 4))).before #[Value.ref b] s = true := hs _ (by decide +kernel)
  have e5 : (Cond.eq (.elem (.static RX4 "MOST_SETTINGS" "[I") (.int 5)) (.int (sfMost 5))).before #[Value.ref b] s = true := hs _ (by decide +kernel)
  have e6 : (Cond.eq (.elem (.static RX4 "MOST_SETTINGS" "[I") (.int 6)) (.int (sfMost 6))).before #[Value.ref b] s = true := hs _ (by decide +kernel)
  have e7 : (Cond.eq (.elem (.static RX4 "MOST_SETTINGS" "[I") (.int 7)) (.int (sfMost 7))).before #[Value.ref b] s = true := hs _ (by decide +kernel)
  obtain ⟨t, ht, hT⟩ := va_Tof (tm := .static RX4 "MOST_SETTINGS" "[I") (ty := .int) (N := 8) (f := fun j => .int (sfMost j)) (A := fun q : Nat => s.heap.size ≤ q) (by decide) h1 (va_eqt h2) (fun j hj => by
    rcases (show j = 0 ∨ j = 1 ∨ j = 2 ∨ j = 3 ∨ j = 4 ∨ j = 5 ∨ j = 6 ∨ j = 7 by omega) with rfl | rfl | rfl | rfl | rfl | rfl | rfl | rfl
    · exact va_eqt e0
    · exact va_eqt e1
    · exact va_eqt e2
    · exact va_eqt e3
    · exact va_eqt e4
    · exact va_eqt e5
    · exact va_eqt e6
    · exact va_eqt e7) hA
  exact ⟨t, va_Zref (hts (Cond.laysStatic RX4 "MOST_SETTINGS" "[I") (List.mem_of_getElem? (i := 288) (by decide +kernel))) (hts (Cond.initialized RX4) (List.mem_of_getElem? (i := 11) (by decide +kernel))) ht hA, hT⟩
set_option maxHeartbeats 4000000 in
set_option maxRecDepth 100000 in
theorem law_K {args : Array Value} {s : State} (hts : ∀ w ∈ lw_tbl, w.before args s = true) : ∃ (G : va_G) (cI cC cZ cQ : ClassId), va_K G vwCl (TQ cI cC cZ cQ []) s := by
  obtain ⟨c0, iS0, hk0⟩ := u_known (C := RX0) (T := TX0) (N := 3) (n := 3) hts inX0 (hts (.instantiable RX0 3) (List.mem_of_getElem? (i := 76) (by decide +kernel)))
  obtain ⟨c1, iS1, hk1⟩ := u_known (C := RX1) (T := TX1) (N := 6) (n := 6) hts inX1 (hts (.instantiable RX1 6) (List.mem_of_getElem? (i := 94) (by decide +kernel)))
  obtain ⟨c2, iS2, hk2⟩ := u_known (C := RX2) (T := TX2) (N := 6) (n := 6) hts inX2 (hts (.instantiable RX2 6) (List.mem_of_getElem? (i := 27) (by decide +kernel)))
  obtain ⟨c3, iS3, hk3⟩ := u_known (C := RX3) (T := TX3) (N := 2) (n := 2) hts inX3 (hts (.instantiable RX3 2) (List.mem_of_getElem? (i := 33) (by decide +kernel)))
  obtain ⟨c4, iS4, hk4⟩ := u_known (C := RX4) (T := TX4) (N := 5) (n := 5) hts inX4 (hts (.instantiable RX4 5) (List.mem_of_getElem? (i := 19) (by decide +kernel)))
  obtain ⟨cI, kI, mI, iI1, iI2, iI3⟩ := Cond.arrayClass_spec (hts (.arrayClass .int) (List.mem_of_getElem? (i := 48) (by decide +kernel)))
  obtain ⟨cC, kC, mC, iC1, iC2, iC3⟩ := Cond.arrayClass_spec (hts (.arrayClass .char) (List.mem_of_getElem? (i := 114) (by decide +kernel)))
  obtain ⟨mQ, cQ, kQ, iQ1, -, iQ2, iQ3, iQ4⟩ := Cond.arrayOver_spec (hts (Cond.arrayOver (.object RX2)) (List.mem_of_getElem? (i := 74) (by decide +kernel)))
  refine ⟨(fun k => match k with
    | 0 => c0
    | 1 => c1
    | 2 => c2
    | 3 => c3
    | _ => c4, fun k => match k with
    | 0 => iS0
    | 1 => iS1
    | 2 => iS2
    | 3 => iS3
    | _ => iS4), cI, cC, cI, cQ, fun k q hq => ?_, fun k q hq => ?_⟩
  · match k, hq with
    | 0, hq => cases hq; exact hk0
    | 1, hq => cases hq; exact hk1
    | 2, hq => cases hq; exact hk2
    | 3, hq => cases hq; exact hk3
    | 4, hq => cases hq; exact hk4
    | k + 5, hq => cases hq
  · match k, hq with
    | 0, hq => cases hq; exact ⟨fun n z => ⟨fun k h => (by cases h), kI, iI2, mI, iI3⟩, iI1⟩
    | 1, hq => cases hq; exact ⟨fun n z => ⟨fun k h => (by cases h), kC, iC2, mC, iC3⟩, iC1⟩
    | 2, hq => cases hq; exact ⟨fun n z => ⟨fun k h => (by cases h), kI, iI2, mI, iI3⟩, iI1⟩
    | 3, hq => cases hq; exact ⟨fun n z => ⟨fun k h => (by cases h), kQ, iQ2, mQ, iQ3⟩, kQ, mQ, iQ2, iQ3, iQ1, iQ4⟩
    | k + 4, hq => cases hq
