/-! ===== shapes of worlds, small rows (by program) ===== -/
def KF : Nat := 5000
abbrev TY (cI cC cZ : ClassId) (X : List (ClassId × FieldType)) : List (ClassId × FieldType) := (cI, .int) :: (cC, .char) :: (cI, .int) :: X
theorem nn_some {α : Type} (x : α) : ¬ (none : Option α) = some x := fun h => by cases h
theorem r_nch {x : Int32} (h : vp_nar .char x = x) : narrow .char (.int x) = .int x := congrArg Value.int (show x.toUInt32.toUInt16.toUInt32.toInt32 = x from h)
theorem r_fch {x : Int32} (h : vp_nar .char x = x) : fits .char (.int x) = true := by
  have e : x = (x.toUInt32 % 65536).toInt32 := by
    have h1 : x.toUInt32.toUInt16.toUInt32.toInt32 = x := h
    rw [show x.toUInt32.toUInt16.toUInt32 = x.toUInt32 % 65536 from by simp] at h1
    exact h1.symm
  rw [e]
  exact pk_fc x
abbrev wTb (cI : ClassId) (t0 t1 : Nat) (co : Int32) (tn : Nat) (tf : Nat → Int32) : va_W := [(t0, .inr (3, [.int co, .ref t1])), (t1, .inl (cI, tn, .inl tf))]
abbrev wTb2 (cI : ClassId) (t0 t1 o0 o1 : Nat) (co : Int32) (tn : Nat) (tf : Nat → Int32) (oc : Int32) (on : Nat) (of : Nat → Int32) : va_W := [(t0, .inr (3, [.int co, .ref t1])), (t1, .inl (cI, tn, .inl tf)), (o0, .inr (3, [.int oc, .ref o1])), (o1, .inl (cI, on, .inl of))]
abbrev wSt (cI : ClassId) (a0 a1 a2 a3 a4 a5 a6 a7 a8 : Nat) (nu : Nat → Int32) (va : Nat → Int32) (qu : Nat → Int32) (sc : Nat → Int32) (lo : Nat → Int32) (wt : Int32) : va_W := [(a0, .inr (2, [.ref a1, .ref a2, .ref a3, .ref a5, .ref a7, .int wt])), (a1, .inl (cI, 24, .inl nu)), (a2, .inl (cI, 16, .inl va)), (a3, .inr (3, [.int 4, .ref a4])), (a4, .inl (cI, 68, .inl qu)), (a5, .inr (3, [.int 3, .ref a6])), (a6, .inl (cI, 96, .inl sc)), (a7, .inr (3, [.int 4, .ref a8])), (a8, .inl (cI, 32, .inl lo))]
abbrev wSt2 (cI : ClassId) (a0 a1 a2 a3 a4 a5 a6 a7 a8 o0 o1 o2 o3 o4 o5 o6 o7 o8 : Nat) (nu : Nat → Int32) (va : Nat → Int32) (qu : Nat → Int32) (sc : Nat → Int32) (lo : Nat → Int32) (wt : Int32) (onu : Nat → Int32) (ova : Nat → Int32) (oqu : Nat → Int32) (osc : Nat → Int32) (olo : Nat → Int32) (owt : Int32) : va_W := [(a0, .inr (2, [.ref a1, .ref a2, .ref a3, .ref a5, .ref a7, .int wt])), (a1, .inl (cI, 24, .inl nu)), (a2, .inl (cI, 16, .inl va)), (a3, .inr (3, [.int 4, .ref a4])), (a4, .inl (cI, 68, .inl qu)), (a5, .inr (3, [.int 3, .ref a6])), (a6, .inl (cI, 96, .inl sc)), (a7, .inr (3, [.int 4, .ref a8])), (a8, .inl (cI, 32, .inl lo)), (o0, .inr (2, [.ref o1, .ref o2, .ref o3, .ref o5, .ref o7, .int owt])), (o1, .inl (cI, 24, .inl onu)), (o2, .inl (cI, 16, .inl ova)), (o3, .inr (3, [.int 4, .ref o4])), (o4, .inl (cI, 68, .inl oqu)), (o5, .inr (3, [.int 3, .ref o6])), (o6, .inl (cI, 96, .inl osc)), (o7, .inr (3, [.int 4, .ref o8])), (o8, .inl (cI, 32, .inl olo))]
abbrev wPd (cC : ClassId) (p0 p1 : Nat) (ch : Nat → Int32) (pl : Int32) (pa : Int32) (po : Int32) (pf : Int32) (ps : Int32) : va_W := [(p0, .inr (1, [.ref p1, .int pl, .int pa, .int po, .int pf, .int ps])), (p1, .inl (cC, 80, .inl ch))]
abbrev wHi (h0 h1 : Nat) (ho : Int32) (hs : Int32) : va_W := [(h0, .inr (0, [.ref h1, .int ho, .int hs]))]
abbrev wLDs (cI : ClassId) (d0 b0 sl h0 p0 a0 a1 a2 a3 a4 a5 a6 a7 a8 : Nat) (nu : Nat → Int32) (va : Nat → Int32) (qu : Nat → Int32) (sc : Nat → Int32) (lo : Nat → Int32) (wt : Int32) : va_W := [(d0, .inr (4, [.ref a0, .ref b0, .ref sl, .ref h0, .ref p0])), (a0, .inr (2, [.ref a1, .ref a2, .ref a3, .ref a5, .ref a7, .int wt])), (a1, .inl (cI, 24, .inl nu)), (a2, .inl (cI, 16, .inl va)), (a3, .inr (3, [.int 4, .ref a4])), (a4, .inl (cI, 68, .inl qu)), (a5, .inr (3, [.int 3, .ref a6])), (a6, .inl (cI, 96, .inl sc)), (a7, .inr (3, [.int 4, .ref a8])), (a8, .inl (cI, 32, .inl lo))]
abbrev wLDt (cI : ClassId) (d0 sl h0 p0 a0 a1 a2 a3 a4 a5 a6 a7 a8 b0 b1 b2 b3 b4 b5 b6 b7 b8 : Nat) (nu : Nat → Int32) (va : Nat → Int32) (qu : Nat → Int32) (sc : Nat → Int32) (lo : Nat → Int32) (wt : Int32) (tnu : Nat → Int32) (tva : Nat → Int32) (tqu : Nat → Int32) (tsc : Nat → Int32) (tlo : Nat → Int32) (twt : Int32) : va_W := [(d0, .inr (4, [.ref a0, .ref b0, .ref sl, .ref h0, .ref p0])), (a0, .inr (2, [.ref a1, .ref a2, .ref a3, .ref a5, .ref a7, .int wt])), (a1, .inl (cI, 24, .inl nu)), (a2, .inl (cI, 16, .inl va)), (a3, .inr (3, [.int 4, .ref a4])), (a4, .inl (cI, 68, .inl qu)), (a5, .inr (3, [.int 3, .ref a6])), (a6, .inl (cI, 96, .inl sc)), (a7, .inr (3, [.int 4, .ref a8])), (a8, .inl (cI, 32, .inl lo)), (b0, .inr (2, [.ref b1, .ref b2, .ref b3, .ref b5, .ref b7, .int twt])), (b1, .inl (cI, 24, .inl tnu)), (b2, .inl (cI, 16, .inl tva)), (b3, .inr (3, [.int 4, .ref b4])), (b4, .inl (cI, 68, .inl tqu)), (b5, .inr (3, [.int 3, .ref b6])), (b6, .inl (cI, 96, .inl tsc)), (b7, .inr (3, [.int 4, .ref b8])), (b8, .inl (cI, 32, .inl tlo))]
abbrev wLDc (cI : ClassId) (cC : ClassId) (d0 b0 sl a0 a1 a2 a3 a4 a5 a6 a7 a8 p0 p1 h0 h1 : Nat) (nu : Nat → Int32) (va : Nat → Int32) (qu : Nat → Int32) (sc : Nat → Int32) (lo : Nat → Int32) (wt : Int32) (ch : Nat → Int32) (pl : Int32) (pa : Int32) (po : Int32) (pf : Int32) (ps : Int32) (ho : Int32) (hs : Int32) : va_W := [(d0, .inr (4, [.ref a0, .ref b0, .ref sl, .ref h0, .ref p0])), (a0, .inr (2, [.ref a1, .ref a2, .ref a3, .ref a5, .ref a7, .int wt])), (a1, .inl (cI, 24, .inl nu)), (a2, .inl (cI, 16, .inl va)), (a3, .inr (3, [.int 4, .ref a4])), (a4, .inl (cI, 68, .inl qu)), (a5, .inr (3, [.int 3, .ref a6])), (a6, .inl (cI, 96, .inl sc)), (a7, .inr (3, [.int 4, .ref a8])), (a8, .inl (cI, 32, .inl lo)), (p0, .inr (1, [.ref p1, .int pl, .int pa, .int po, .int pf, .int ps])), (p1, .inl (cC, 80, .inl ch)), (h0, .inr (0, [.ref h1, .int ho, .int hs]))]
abbrev wLDg (cI : ClassId) (d0 sl h0 p0 a0 a1 a2 a3 a5 a7 b0 b1 b2 b3 b5 b7 : Nat) (nu : Nat → Int32) (wt : Int32) (tnu : Nat → Int32) (twt : Int32) : va_W := [(d0, .inr (4, [.ref a0, .ref b0, .ref sl, .ref h0, .ref p0])), (a0, .inr (2, [.ref a1, .ref a2, .ref a3, .ref a5, .ref a7, .int wt])), (a1, .inl (cI, 24, .inl nu)), (b0, .inr (2, [.ref b1, .ref b2, .ref b3, .ref b5, .ref b7, .int twt])), (b1, .inl (cI, 24, .inl tnu))]
theorem lkN_2_33 : ("LineDoubler$State", 33, "LineDoubler", "FIRST_SETTINGS", "[I", "LineDoubler") ∈ nwF := by decide +kernel
theorem lkN_4_63 : ("LineDoubler", 63, "LineDoubler$State", "numbers", "[I", "LineDoubler") ∈ nwF := by decide +kernel
theorem lkN_4_71 : ("LineDoubler", 71, "LineDoubler$State", "queue", "LLineDoubler$Table;", "LineDoubler") ∈ nwF := by decide +kernel
theorem lkN_4_83 : ("LineDoubler", 83, "LineDoubler$State", "screen", "LLineDoubler$Table;", "LineDoubler") ∈ nwF := by decide +kernel
theorem lkN_4_91 : ("LineDoubler", 91, "LineDoubler$State", "lost", "LLineDoubler$Table;", "LineDoubler") ∈ nwF := by decide +kernel
theorem lkN_4_98 : ("LineDoubler", 98, "LineDoubler$History", "size", "I", "LineDoubler") ∈ nwF := by decide +kernel
theorem lkN_4_94 : ("LineDoubler", 94, "LineDoubler$Pad", "length", "I", "LineDoubler") ∈ nwF := by decide +kernel
theorem lkN_2_58 : ("LineDoubler$State", 58, "LineDoubler", "LEAST_SETTINGS", "[I", "LineDoubler") ∈ nwF := by decide +kernel
theorem lkN_2_61 : ("LineDoubler$State", 61, "LineDoubler", "MOST_SETTINGS", "[I", "LineDoubler") ∈ nwF := by decide +kernel
theorem lkM_4_25 : ("LineDoubler", 25, yX0_init, "LineDoubler") ∈ nwM := by decide +kernel
theorem lkM_4_32 : ("LineDoubler", 32, yX1_init, "LineDoubler") ∈ nwM := by decide +kernel
theorem lkM_0_24 : ("LineDoubler$History", 24, yX4_keepCopy, "LineDoubler") ∈ nwM := by decide +kernel
theorem lkM_2_50 : ("LineDoubler$State", 50, yX4_isWithin, "LineDoubler") ∈ nwM := by decide +kernel
theorem k_0_24 : vp_in 0 24 ∧ (0 : Int32).toNatClampNeg = 0 := ⟨by unfold vp_in; decide, rfl⟩
theorem k_1_24 : vp_in 1 24 ∧ (1 : Int32).toNatClampNeg = 1 := ⟨by unfold vp_in; decide, rfl⟩
theorem k_2_24 : vp_in 2 24 ∧ (2 : Int32).toNatClampNeg = 2 := ⟨by unfold vp_in; decide, rfl⟩
theorem k_3_24 : vp_in 3 24 ∧ (3 : Int32).toNatClampNeg = 3 := ⟨by unfold vp_in; decide, rfl⟩
theorem k_4_24 : vp_in 4 24 ∧ (4 : Int32).toNatClampNeg = 4 := ⟨by unfold vp_in; decide, rfl⟩
theorem k_5_24 : vp_in 5 24 ∧ (5 : Int32).toNatClampNeg = 5 := ⟨by unfold vp_in; decide, rfl⟩
theorem k_6_24 : vp_in 6 24 ∧ (6 : Int32).toNatClampNeg = 6 := ⟨by unfold vp_in; decide, rfl⟩
theorem k_7_24 : vp_in 7 24 ∧ (7 : Int32).toNatClampNeg = 7 := ⟨by unfold vp_in; decide, rfl⟩
theorem k_8_24 : vp_in 8 24 ∧ (8 : Int32).toNatClampNeg = 8 := ⟨by unfold vp_in; decide, rfl⟩
theorem k_9_24 : vp_in 9 24 ∧ (9 : Int32).toNatClampNeg = 9 := ⟨by unfold vp_in; decide, rfl⟩
theorem k_10_24 : vp_in 10 24 ∧ (10 : Int32).toNatClampNeg = 10 := ⟨by unfold vp_in; decide, rfl⟩
theorem k_11_24 : vp_in 11 24 ∧ (11 : Int32).toNatClampNeg = 11 := ⟨by unfold vp_in; decide, rfl⟩
theorem k_15_24 : vp_in 15 24 ∧ (15 : Int32).toNatClampNeg = 15 := ⟨by unfold vp_in; decide, rfl⟩
