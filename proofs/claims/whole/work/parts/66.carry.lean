/-! ===== LineDoubler: carryOut ===== -/
def po_cbad (cI cC cQ : ClassId) (d0 b0 sl h0 h1 p0 p1 o z : Nat) (f : Nat → Option Nat) (wg : va_W) (α : Nat → Nat) (S : T6) (ch : Nat → Int32) (pl pa po pf ps : Int32) : Option Value → va_W → Prop := fun res w' => res = some (.int (-3)) ∧ w' = [(d0, .inr (4, [.ref (α 0), .ref b0, .ref sl, .ref h0, .ref p0])), (h0, .inr (0, [.ref h1, .int (nI o), .int (nI z)])), (h1, qA cQ 7 f), (p0, .inr (1, [.ref p1, .int pl, .int pa, .int po, .int pf, .int ps])), (p1, .inl (cC, 80, .inl ch))] ++ wS cI α S ++ wg
def po_cok (cI cC cQ : ClassId) (d0 b0 sl h0 h1 p0 p1 o z : Nat) (Cs : Nat → Option T6) (α : Nat → Nat) (S S' : T6) (ch : Nat → Int32) (rv ho' hs' pa po pf ps : Int32) : Option Value → va_W → Prop := fun res w' => res = some (.int rv) ∧ ∃ (f' : Nat → Option Nat) (wg' : va_W) (Y : T6), CP S Y ∧ RGs cI f' (va_up Cs ((o + z) % 7) (some Y)) 7 wg' ∧ w' = [(d0, .inr (4, [.ref (α 0), .ref b0, .ref sl, .ref h0, .ref p0])), (h0, .inr (0, [.ref h1, .int ho', .int hs'])), (h1, qA cQ 7 f'), (p0, .inr (1, [.ref p1, .int 0, .int pa, .int po, .int pf, .int ps])), (p1, .inl (cC, 80, .inl ch))] ++ wS cI α S' ++ wg'
def rm_X4_carryOut : Room := { frames := 7, cells := 9, slots := 340, locals := 154 }
set_option maxRecDepth 20000 in
theorem lk_X4_carryOut_33 : Cond.fieldLink RX4 33 "LineDoubler" "pad" "LLineDoubler$Pad;" ∈ wsX4_carryOut := List.mem_of_getElem? (i := 1) (by decide +kernel)
set_option maxRecDepth 20000 in
theorem lk_X4_carryOut_26 : Cond.fieldLink RX4 26 "LineDoubler" "history" "LLineDoubler$History;" ∈ wsX4_carryOut := List.mem_of_getElem? (i := 2) (by decide +kernel)
set_option maxRecDepth 20000 in
theorem lk_X4_carryOut_10 : Cond.fieldLink RX4 10 "LineDoubler" "state" "LLineDoubler$State;" ∈ wsX4_carryOut := List.mem_of_getElem? (i := 3) (by decide +kernel)
set_option maxRecDepth 20000 in
theorem in_X4_carryOut_X4 : ∀ x ∈ wsX40, x ∈ wsX4_carryOut := mem_r _ [180, 181, 182, 183, 184] (by decide +kernel)
set_option maxRecDepth 20000 in
theorem in_X4_carryOut_X1 : ∀ x ∈ wsX10, x ∈ wsX4_carryOut := mem_r _ [185, 186, 187, 188, 189, 190] (by decide +kernel)
set_option maxRecDepth 20000 in
theorem cw_X4_carryOut_X1_findFault_133 {s : State} {args : Array Value} (hts : ∀ w ∈ wsX4_carryOut, w.before args s = true) : CallW rm_X4_carryOut s args RX4 RX1 133 yX1_findFault cX1_findFault 2 (some .int) wsX1_findFault rm_X1_findFault 0 0 0 :=
  cwV 0 hts gX4_carryOut_X1_findFault rfl rfl rfl (by decide +kernel) ⟨Nat.le_of_ble_eq_true rfl, Nat.le_of_ble_eq_true rfl⟩
set_option maxRecDepth 20000 in
theorem cw_X4_carryOut_X0_prepare_37 {s : State} {args : Array Value} (hts : ∀ w ∈ wsX4_carryOut, w.before args s = true) : CallW rm_X4_carryOut s args RX4 RX0 37 yX0_prepare cX0_prepare 2 none wsX0_prepare rm_X0_prepare 9 340 1 :=
  cwV 1 hts gX4_carryOut_X0_prepare rfl rfl rfl (by decide +kernel) ⟨Nat.le_of_ble_eq_true rfl, Nat.le_of_ble_eq_true rfl⟩
set_option maxRecDepth 20000 in
theorem cw_X4_carryOut_X0_keepIfDone_45 {s : State} {args : Array Value} (hts : ∀ w ∈ wsX4_carryOut, w.before args s = true) : CallW rm_X4_carryOut s args RX4 RX0 45 yX0_keepIfDone cX0_keepIfDone 2 (some .int) wsX0_keepIfDone rm_X0_keepIfDone 0 0 1 :=
  cwV 1 hts gX4_carryOut_X0_keepIfDone rfl rfl rfl (by decide +kernel) ⟨Nat.le_of_ble_eq_true rfl, Nat.le_of_ble_eq_true rfl⟩
set_option maxRecDepth 20000 in
theorem cw_X4_carryOut_X1_readOrder_139 {s : State} {args : Array Value} (hts : ∀ w ∈ wsX4_carryOut, w.before args s = true) : CallW rm_X4_carryOut s args RX4 RX1 139 yX1_readOrder cX1_readOrder 1 (some .boolean) wsX1_readOrder rm_X1_readOrder 0 0 0 :=
  cwV 0 hts gX4_carryOut_X1_readOrder rfl rfl rfl (by decide +kernel) ⟨Nat.le_of_ble_eq_true rfl, Nat.le_of_ble_eq_true rfl⟩
set_option maxRecDepth 20000 in
theorem cw_X4_carryOut_X4_carryOutOrder_143 {s : State} {args : Array Value} (hts : ∀ w ∈ wsX4_carryOut, w.before args s = true) : CallW rm_X4_carryOut s args RX4 RX4 143 yX4_carryOutOrder cX4_carryOutOrder 1 (some .int) wsX4_carryOutOrder rm_X4_carryOutOrder 0 0 0 :=
  cwV 0 hts gX4_carryOut_X4_carryOutOrder rfl rfl rfl (by decide +kernel) ⟨Nat.le_of_ble_eq_true rfl, Nat.le_of_ble_eq_true rfl⟩
set_option maxRecDepth 20000 in
theorem cw_X4_carryOut_X1_readSign_146 {s : State} {args : Array Value} (hts : ∀ w ∈ wsX4_carryOut, w.before args s = true) : CallW rm_X4_carryOut s args RX4 RX1 146 yX1_readSign cX1_readSign 2 (some .boolean) wsX1_readSign rm_X1_readSign 0 0 1 :=
  cwV 1 hts gX4_carryOut_X1_readSign rfl rfl rfl (by decide +kernel) ⟨Nat.le_of_ble_eq_true rfl, Nat.le_of_ble_eq_true rfl⟩
set_option maxHeartbeats 4000000 in
set_option maxRecDepth 100000 in
theorem c_X4_carryOut (l : Launch) (G : va_G) (cI cC cZ cQ : ClassId) (X : List (ClassId × FieldType)) (d0 b0 sl h0 h1 p0 p1 o z : Nat) (ho : o < 7) (hz : z ≤ 6) (f : Nat → Option Nat) (Cs : Nat → Option T6) (wg : va_W) (hRG : RGs cI f Cs 7 wg) (α : Nat → Nat) (S : T6) (ch : Nat → Int32) (pl pa po pf ps rv pa1 po1 pf1 ps1 : Int32) (hff : fX1_findFault ch pl pa po pf ps = some (rv, pa1, po1, pf1, ps1)) (he : rv = -6) (S' : T6) (fu : Nat) (dn pa2 po2 pf2 ps2 rk ho' hs' : Int32) (hco : fCO ch pl fu S 0 po1 pf1 ps1 0 1 0 = some (dn, S', pa2, po2, pf2, ps2)) (hk : fX0_keepIfDone (nI o) (nI z) dn = some (rk, ho', hs')) : CY l yX4_carryOut wsX4_carryOut rm_X4_carryOut G (TQ cI cC cZ cQ X) [.ref d0] ([(d0, .inr (4, [.ref (α 0), .ref b0, .ref sl, .ref h0, .ref p0])), (h0, .inr (0, [.ref h1, .int (nI o), .int (nI z)])), (h1, qA cQ 7 f), (p0, .inr (1, [.ref p1, .int pl, .int pa, .int po, .int pf, .int ps])), (p1, .inl (cC, 80, .inl ch))] ++ wS cI α S ++ wg : va_W) ((po_cok cI cC cQ d0 b0 sl h0 h1 p0 p1 o z Cs α S S' ch rk ho' hs' pa2 po2 pf2 ps2)) 9 340 := by
  refine CY.of (cc := cX4_carryOut) (maxL := 4) (ret := (some .int)) RX4 rfl (by decide) rfl (Nat.le_of_ble_eq_true rfl) ?_
  intro p e s m args below meth c A ls C hr hlocks hnm h hl
  have hx := C.hx
  have hb := C.hb
  have hl : lv_has ls 4 [(0, .ref d0)] := hl
  refine lv_aload_n hx hb dX4_carryOut_0 rfl (lv_at hl 0 rfl) ?_
  refine r_get C h 0 4 (ci := 4) (N := 5) (Cn := RX4) (T := TX4) rfl rfl (by decide) in_X4_carryOut_X4 lk_X4_carryOut_33 rfl dX4_carryOut_1 ?_
  replace h := Hx.perm (w := catW ([[(d0, .inr (4, [.ref (α 0), .ref b0, .ref sl, .ref h0, .ref p0]))], [(h0, .inr (0, [.ref h1, .int (nI o), .int (nI z)]))], [(h1, qA cQ 7 f)], [(p0, .inr (1, [.ref p1, .int pl, .int pa, .int po, .int pf, .int ps]))], [(p1, .inl (cC, 80, .inl ch))], wS cI α S, wg] : List va_W)) h (perm_2 7 ([[(d0, .inr (4, [.ref (α 0), .ref b0, .ref sl, .ref h0, .ref p0]))], [(h0, .inr (0, [.ref h1, .int (nI o), .int (nI z)]))], [(h1, qA cQ 7 f)], [(p0, .inr (1, [.ref p1, .int pl, .int pa, .int po, .int pf, .int ps]))], [(p1, .inl (cC, 80, .inl ch))], wS cI α S, wg] : List va_W) [0, 1, 2, 5, 6] [3, 4] rfl (by decide))
  refine r_callVY (wr := catW ([[(d0, .inr (4, [.ref (α 0), .ref b0, .ref sl, .ref h0, .ref p0]))], [(h0, .inr (0, [.ref h1, .int (nI o), .int (nI z)]))], [(h1, qA cQ 7 f)], wS cI α S, wg] : List va_W)) (wc := catW ([[(p0, .inr (1, [.ref p1, .int pl, .int pa, .int po, .int pf, .int ps]))], [(p1, .inl (cC, 80, .inl ch))]] : List va_W)) (rest := []) (ci := 1) (N := 6) (Cn := RX1) (T := TX1) C h (cw_X4_carryOut_X1_findFault_133 C.hts) (CT.toY (c_X1_findFault l G cI cC cZ ((cQ, .object RX2) :: X) p0 p1 ch pl pa po pf ps rv pa1 po1 pf1 ps1 hff)) rfl (List.mem_append_right _ List.mem_cons_self) rfl hl.1 rfl (Nat.le_of_ble_eq_true rfl) ⟨(Nat.le_of_ble_eq_true rfl), (Nat.le_of_ble_eq_true rfl)⟩ dX4_carryOut_4 (fun res w1 H locs hpo h => ?_)
  obtain ⟨rfl, rfl⟩ := hpo
  replace h := Hx.perm (w := catW ([[(d0, .inr (4, [.ref (α 0), .ref b0, .ref sl, .ref h0, .ref p0]))], [(h0, .inr (0, [.ref h1, .int (nI o), .int (nI z)]))], [(h1, qA cQ 7 f)], wS cI α S, wg] : List va_W) ++ catW ([[(p0, .inr (1, [.ref p1, .int pl, .int pa1, .int po1, .int pf1, .int ps1]))], [(p1, .inl (cC, 80, .inl ch))]] : List va_W)) h (perm_2 7 ([[(d0, .inr (4, [.ref (α 0), .ref b0, .ref sl, .ref h0, .ref p0]))], [(h0, .inr (0, [.ref h1, .int (nI o), .int (nI z)]))], [(h1, qA cQ 7 f)], [(p0, .inr (1, [.ref p1, .int pl, .int pa1, .int po1, .int pf1, .int ps1]))], [(p1, .inl (cC, 80, .inl ch))], wS cI α S, wg] : List va_W) [0, 1, 2, 5, 6] [3, 4] rfl (by decide)).symm
  replace h : Hx s G A ([(d0, .inr (4, [.ref (α 0), .ref b0, .ref sl, .ref h0, .ref p0])), (h0, .inr (0, [.ref h1, .int (nI o), .int (nI z)])), (h1, qA cQ 7 f), (p0, .inr (1, [.ref p1, .int pl, .int pa1, .int po1, .int pf1, .int ps1])), (p1, .inl (cC, 80, .inl ch))] ++ wS cI α S ++ wg : va_W) _ _ := h
  refine lv_bipush (v := (-6)) hx hb dX4_carryOut_7 (by decide) ?_
  refine lv_icmp_eq (tgt := 15) hx hb dX4_carryOut_9 (by decide) (fun _ => ?_) (fun hc => absurd he hc)
  refine lv_aload_n hx hb dX4_carryOut_15 rfl (lv_at hl 0 rfl) ?_
  refine r_get C h 0 3 (ci := 4) (N := 5) (Cn := RX4) (T := TX4) rfl rfl (by decide) in_X4_carryOut_X4 lk_X4_carryOut_26 rfl dX4_carryOut_16 ?_
  refine lv_aload_n hx hb dX4_carryOut_19 rfl (lv_at hl 0 rfl) ?_
  refine r_get C h 0 0 (ci := 4) (N := 5) (Cn := RX4) (T := TX4) rfl rfl (by decide) in_X4_carryOut_X4 lk_X4_carryOut_10 rfl dX4_carryOut_20 ?_
  replace h := Hx.perm (w := catW ([[(d0, .inr (4, [.ref (α 0), .ref b0, .ref sl, .ref h0, .ref p0]))], [(h0, .inr (0, [.ref h1, .int (nI o), .int (nI z)]))], [(h1, qA cQ 7 f)], [(p0, .inr (1, [.ref p1, .int pl, .int pa1, .int po1, .int pf1, .int ps1]))], [(p1, .inl (cC, 80, .inl ch))], wS cI α S, wg] : List va_W)) h (perm_2 7 ([[(d0, .inr (4, [.ref (α 0), .ref b0, .ref sl, .ref h0, .ref p0]))], [(h0, .inr (0, [.ref h1, .int (nI o), .int (nI z)]))], [(h1, qA cQ 7 f)], [(p0, .inr (1, [.ref p1, .int pl, .int pa1, .int po1, .int pf1, .int ps1]))], [(p1, .inl (cC, 80, .inl ch))], wS cI α S, wg] : List va_W) [0, 3, 4] [1, 2, 5, 6] rfl (by decide))
  refine r_callVY (rest := []) (ci := 0) (N := 3) (Cn := RX0) (T := TX0) C h (cw_X4_carryOut_X0_prepare_37 C.hts) (c_X0_prepare l G cI cC cZ cQ X h0 h1 o z ho hz f Cs wg hRG α S) rfl (List.mem_append_right _ List.mem_cons_self) rfl hl.1 rfl (Nat.le_of_ble_eq_true rfl) ⟨(Nat.le_of_ble_eq_true rfl), (Nat.le_of_ble_eq_true rfl)⟩ dX4_carryOut_23 (fun res w1 H locs hpo hn => ?_)
  clear h
  obtain ⟨rfl, f', wg', Y, hY, hg, rfl⟩ := hpo
  have h := hn
  clear hn
  replace h := Hx.perm (w := catW ([[(d0, .inr (4, [.ref (α 0), .ref b0, .ref sl, .ref h0, .ref p0]))], [(p0, .inr (1, [.ref p1, .int pl, .int pa1, .int po1, .int pf1, .int ps1]))], [(p1, .inl (cC, 80, .inl ch))]] : List va_W) ++ catW ([[(h0, .inr (0, [.ref h1, .int (nI o), .int (nI z)]))], [(h1, qA cQ 7 f')], wS cI α S, wg'] : List va_W)) h (perm_2 7 ([[(d0, .inr (4, [.ref (α 0), .ref b0, .ref sl, .ref h0, .ref p0]))], [(h0, .inr (0, [.ref h1, .int (nI o), .int (nI z)]))], [(h1, qA cQ 7 f')], [(p0, .inr (1, [.ref p1, .int pl, .int pa1, .int po1, .int pf1, .int ps1]))], [(p1, .inl (cC, 80, .inl ch))], wS cI α S, wg'] : List va_W) [0, 3, 4] [1, 2, 5, 6] rfl (by decide)).symm
  replace h : Hx s G A ([(d0, .inr (4, [.ref (α 0), .ref b0, .ref sl, .ref h0, .ref p0])), (h0, .inr (0, [.ref h1, .int (nI o), .int (nI z)])), (h1, qA cQ 7 f'), (p0, .inr (1, [.ref p1, .int pl, .int pa1, .int po1, .int pf1, .int ps1])), (p1, .inl (cC, 80, .inl ch))] ++ wS cI α S ++ wg' : va_W) _ _ := h
  refine lv_iconst (v := 0) hx hb dX4_carryOut_26 (by decide) ?_
  refine lv_istore_n (lv' := [(1, .int 0), (0, .ref d0)]) hx hb dX4_carryOut_27 rfl hl (by decide) rfl (fun ls hl => ?_)
  refine lv_iconst (v := 1) hx hb dX4_carryOut_28 (by decide) ?_
  refine lv_istore_n (lv' := [(2, .int 1), (1, .int 0), (0, .ref d0)]) hx hb dX4_carryOut_29 rfl hl (by decide) rfl (fun ls hl => ?_)
  refine lv_aload_n hx hb dX4_carryOut_30 rfl (lv_at hl 2 rfl) ?_
  refine r_get C h 0 4 (ci := 4) (N := 5) (Cn := RX4) (T := TX4) rfl rfl (by decide) in_X4_carryOut_X4 lk_X4_carryOut_33 rfl dX4_carryOut_31 ?_
  refine lv_iconst (v := 0) hx hb dX4_carryOut_34 (by decide) ?_
  refine r_putN C h 3 2 (ci := 1) (N := 6) (Cn := RX1) (T := TX1) (ty0 := tyX1) rfl rfl (by decide) in_X4_carryOut_X1 tyX1_ok nmX1 lkN_4_136 rfl (by first | rfl | decide +kernel) (by first | rfl | decide +kernel) (Nat.le_of_ble_eq_true rfl) ([(d0, .inr (4, [.ref (α 0), .ref b0, .ref sl, .ref h0, .ref p0])), (h0, .inr (0, [.ref h1, .int (nI o), .int (nI z)])), (h1, qA cQ 7 f'), (p0, .inr (1, [.ref p1, .int pl, .int 0, .int po1, .int pf1, .int ps1])), (p1, .inl (cC, 80, .inl ch))] ++ wS cI α S ++ wg' : va_W) rfl dX4_carryOut_35 (fun H locs h => ?_)
  refine lv_iconst (v := 0) hx hb dX4_carryOut_38 (by decide) ?_
  refine lv_istore_n (lv' := [(3, .int 0), (2, .int 1), (1, .int 0), (0, .ref d0)]) hx hb dX4_carryOut_39 rfl hl (by decide) rfl (fun ls hl => ?_)
  have loop : ∀ (n : Nat) (V : T6) (pa po pf ps dn0 more i : Int32) (H : Heap) (locs : List Loc) (ls : Array Slot), fCO ch pl n V pa po pf ps dn0 more i = some (dn, S', pa2, po2, pf2, ps2) → Hx s G A ([(d0, .inr (4, [.ref (α 0), .ref b0, .ref sl, .ref h0, .ref p0])), (h0, .inr (0, [.ref h1, .int (nI o), .int (nI z)])), (h1, qA cQ 7 f'), (p0, .inr (1, [.ref p1, .int pl, .int pa, .int po, .int pf, .int ps])), (p1, .inl (cC, 80, .inl ch))] ++ wS cI α V ++ wg' : va_W) H locs → lv_has ls 4 [(3, .int i), (2, .int more), (1, .int dn0), (0, .ref d0)] → W p l e rm_X4_carryOut s m args below meth c H locs 9 340 (MQ below (Qy G (po_cok cI cC cQ d0 b0 sl h0 h1 p0 p1 o z Cs α S S' ch rk ho' hs' pa2 po2 pf2 ps2) A) args s 9 340 A) (F0 m 40 ls []) := by
    intro n
    induction n with
    | zero => intro V pa po pf ps dn0 more i H locs ls hco h hl; exact (nn_some _ hco).elim
    | succ n ih =>
      intro V pa po pf ps dn0 more i H locs ls hco h hl
      have hco : fCO_b (fCO ch pl n) ch pl V pa po pf ps dn0 more i = _ := hco
      unfold fCO_b at hco
      have fin : ∀ (H : Heap) (locs : List Loc) (ls : Array Slot), some (dn0, V, pa, po, pf, ps) = some (dn, S', pa2, po2, pf2, ps2) → Hx s G A ([(d0, .inr (4, [.ref (α 0), .ref b0, .ref sl, .ref h0, .ref p0])), (h0, .inr (0, [.ref h1, .int (nI o), .int (nI z)])), (h1, qA cQ 7 f'), (p0, .inr (1, [.ref p1, .int pl, .int pa, .int po, .int pf, .int ps])), (p1, .inl (cC, 80, .inl ch))] ++ wS cI α V ++ wg' : va_W) H locs → lv_has ls 4 [(3, .int i), (2, .int more), (1, .int dn0), (0, .ref d0)] → W p l e rm_X4_carryOut s m args below meth c H locs 9 340 (MQ below (Qy G (po_cok cI cC cQ d0 b0 sl h0 h1 p0 p1 o z Cs α S S' ch rk ho' hs' pa2 po2 pf2 ps2) A) args s 9 340 A) (F0 m 96 ls []) := by
        intro H locs ls hco h hl
        have e0 := Option.some.inj hco
        have e1 : dn0 = dn := congrArg (fun q : Int32 × T6 × Int32 × Int32 × Int32 × Int32 => q.1) e0
        have e2 : V = S' := congrArg (fun q : Int32 × T6 × Int32 × Int32 × Int32 × Int32 => q.2.1) e0
        have e3 : pa = pa2 := congrArg (fun q : Int32 × T6 × Int32 × Int32 × Int32 × Int32 => q.2.2.1) e0
        have e4 : po = po2 := congrArg (fun q : Int32 × T6 × Int32 × Int32 × Int32 × Int32 => q.2.2.2.1) e0
        have e5 : pf = pf2 := congrArg (fun q : Int32 × T6 × Int32 × Int32 × Int32 × Int32 => q.2.2.2.2.1) e0
        have e6 : ps = ps2 := congrArg (fun q : Int32 × T6 × Int32 × Int32 × Int32 × Int32 => q.2.2.2.2.2) e0
        have hk0 : fX0_keepIfDone (nI o) (nI z) dn0 = some (rk, ho', hs') := by rw [e1]; exact hk
        refine lv_aload_n hx hb dX4_carryOut_96 rfl (lv_at hl 3 rfl) ?_
        refine r_get C h 0 4 (ci := 4) (N := 5) (Cn := RX4) (T := TX4) rfl rfl (by decide) in_X4_carryOut_X4 lk_X4_carryOut_33 rfl dX4_carryOut_97 ?_
        refine lv_iconst (v := 0) hx hb dX4_carryOut_100 (by decide) ?_
        refine r_putN C h 3 1 (ci := 1) (N := 6) (Cn := RX1) (T := TX1) (ty0 := tyX1) rfl rfl (by decide) in_X4_carryOut_X1 tyX1_ok nmX1 lkN_4_94 rfl (by first | rfl | decide +kernel) (by first | rfl | decide +kernel) (Nat.le_of_ble_eq_true rfl) ([(d0, .inr (4, [.ref (α 0), .ref b0, .ref sl, .ref h0, .ref p0])), (h0, .inr (0, [.ref h1, .int (nI o), .int (nI z)])), (h1, qA cQ 7 f'), (p0, .inr (1, [.ref p1, .int 0, .int pa, .int po, .int pf, .int ps])), (p1, .inl (cC, 80, .inl ch))] ++ wS cI α V ++ wg' : va_W) rfl dX4_carryOut_101 (fun H locs h => ?_)
        refine lv_aload_n hx hb dX4_carryOut_104 rfl (lv_at hl 3 rfl) ?_
        refine r_get C h 0 3 (ci := 4) (N := 5) (Cn := RX4) (T := TX4) rfl rfl (by decide) in_X4_carryOut_X4 lk_X4_carryOut_26 rfl dX4_carryOut_105 ?_
        refine lv_iload_n hx hb dX4_carryOut_108 rfl (lv_at hl 2 rfl) ?_
        replace h := Hx.perm (w := catW ([[(d0, .inr (4, [.ref (α 0), .ref b0, .ref sl, .ref h0, .ref p0]))], [(h0, .inr (0, [.ref h1, .int (nI o), .int (nI z)]))], [(h1, qA cQ 7 f')], [(p0, .inr (1, [.ref p1, .int 0, .int pa, .int po, .int pf, .int ps]))], [(p1, .inl (cC, 80, .inl ch))], wS cI α V, wg'] : List va_W)) h (perm_2 7 ([[(d0, .inr (4, [.ref (α 0), .ref b0, .ref sl, .ref h0, .ref p0]))], [(h0, .inr (0, [.ref h1, .int (nI o), .int (nI z)]))], [(h1, qA cQ 7 f')], [(p0, .inr (1, [.ref p1, .int 0, .int pa, .int po, .int pf, .int ps]))], [(p1, .inl (cC, 80, .inl ch))], wS cI α V, wg'] : List va_W) [0, 2, 3, 4, 5, 6] [1] rfl (by decide))
        refine r_callVY (wr := catW ([[(d0, .inr (4, [.ref (α 0), .ref b0, .ref sl, .ref h0, .ref p0]))], [(h1, qA cQ 7 f')], [(p0, .inr (1, [.ref p1, .int 0, .int pa, .int po, .int pf, .int ps]))], [(p1, .inl (cC, 80, .inl ch))], wS cI α V, wg'] : List va_W)) (wc := catW ([[(h0, .inr (0, [.ref h1, .int (nI o), .int (nI z)]))]] : List va_W)) (rest := []) (ci := 0) (N := 3) (Cn := RX0) (T := TX0) C h (cw_X4_carryOut_X0_keepIfDone_45 C.hts) (CT.toY (c_X0_keepIfDone l G cI cC cZ ((cQ, .object RX2) :: X) h0 h1 (nI o) (nI z) dn0 rk ho' hs' hk0)) rfl (List.mem_append_right _ List.mem_cons_self) rfl hl.1 rfl (Nat.le_of_ble_eq_true rfl) ⟨(Nat.le_of_ble_eq_true rfl), (Nat.le_of_ble_eq_true rfl)⟩ dX4_carryOut_109 (fun res w1 H locs hpo h => ?_)
        obtain ⟨rfl, rfl⟩ := hpo
        replace h := Hx.perm (w := catW ([[(d0, .inr (4, [.ref (α 0), .ref b0, .ref sl, .ref h0, .ref p0]))], [(h1, qA cQ 7 f')], [(p0, .inr (1, [.ref p1, .int 0, .int pa, .int po, .int pf, .int ps]))], [(p1, .inl (cC, 80, .inl ch))], wS cI α V, wg'] : List va_W) ++ catW ([[(h0, .inr (0, [.ref h1, .int ho', .int hs']))]] : List va_W)) h (perm_2 7 ([[(d0, .inr (4, [.ref (α 0), .ref b0, .ref sl, .ref h0, .ref p0]))], [(h0, .inr (0, [.ref h1, .int ho', .int hs']))], [(h1, qA cQ 7 f')], [(p0, .inr (1, [.ref p1, .int 0, .int pa, .int po, .int pf, .int ps]))], [(p1, .inl (cC, 80, .inl ch))], wS cI α V, wg'] : List va_W) [0, 2, 3, 4, 5, 6] [1] rfl (by decide)).symm
        replace h : Hx s G A ([(d0, .inr (4, [.ref (α 0), .ref b0, .ref sl, .ref h0, .ref p0])), (h0, .inr (0, [.ref h1, .int ho', .int hs'])), (h1, qA cQ 7 f'), (p0, .inr (1, [.ref p1, .int 0, .int pa, .int po, .int pf, .int ps])), (p1, .inl (cC, 80, .inl ch))] ++ wS cI α V ++ wg' : va_W) _ _ := h
        exact y_iret C h ⟨rfl, f', wg', Y, hY, hg, by rw [← e2, ← e3, ← e4, ← e5, ← e6]⟩ hr hlocks dX4_carryOut_112
      refine lv_iload_n hx hb dX4_carryOut_40 rfl (lv_at hl 1 rfl) ?_
      refine lv_if_eq (tgt := 96) hx hb dX4_carryOut_41 (by decide) (fun hc => ?_) (fun hc => ?_)
      · rw [if_pos hc] at hco
        exact fin _ _ _ hco h hl
      · rw [if_neg hc] at hco
        refine lv_iload_n hx hb dX4_carryOut_44 rfl (lv_at hl 0 rfl) ?_
        refine lv_bipush (v := 80) hx hb dX4_carryOut_45 (by decide) ?_
        refine lv_icmp_ge (tgt := 96) hx hb dX4_carryOut_47 (by decide) (fun hc => ?_) (fun hc => ?_)
        · rw [if_pos hc] at hco
          exact fin _ _ _ hco h hl
        · rw [if_neg hc] at hco
          refine lv_aload_n hx hb dX4_carryOut_50 rfl (lv_at hl 3 rfl) ?_
          refine r_get C h 0 4 (ci := 4) (N := 5) (Cn := RX4) (T := TX4) rfl rfl (by decide) in_X4_carryOut_X4 lk_X4_carryOut_33 rfl dX4_carryOut_51 ?_
          obtain ⟨r, pa3, po3, pf3, ps3, hq, hco⟩ := ob5_use hco
          replace h := Hx.perm (w := catW ([[(d0, .inr (4, [.ref (α 0), .ref b0, .ref sl, .ref h0, .ref p0]))], [(h0, .inr (0, [.ref h1, .int (nI o), .int (nI z)]))], [(h1, qA cQ 7 f')], [(p0, .inr (1, [.ref p1, .int pl, .int pa, .int po, .int pf, .int ps]))], [(p1, .inl (cC, 80, .inl ch))], wS cI α V, wg'] : List va_W)) h (perm_2 7 ([[(d0, .inr (4, [.ref (α 0), .ref b0, .ref sl, .ref h0, .ref p0]))], [(h0, .inr (0, [.ref h1, .int (nI o), .int (nI z)]))], [(h1, qA cQ 7 f')], [(p0, .inr (1, [.ref p1, .int pl, .int pa, .int po, .int pf, .int ps]))], [(p1, .inl (cC, 80, .inl ch))], wS cI α V, wg'] : List va_W) [0, 1, 2, 5, 6] [3, 4] rfl (by decide))
          refine r_callVY (wr := catW ([[(d0, .inr (4, [.ref (α 0), .ref b0, .ref sl, .ref h0, .ref p0]))], [(h0, .inr (0, [.ref h1, .int (nI o), .int (nI z)]))], [(h1, qA cQ 7 f')], wS cI α V, wg'] : List va_W)) (wc := catW ([[(p0, .inr (1, [.ref p1, .int pl, .int pa, .int po, .int pf, .int ps]))], [(p1, .inl (cC, 80, .inl ch))]] : List va_W)) (rest := []) (ci := 1) (N := 6) (Cn := RX1) (T := TX1) C h (cw_X4_carryOut_X1_readOrder_139 C.hts) (CT.toY (c_X1_readOrder l G cI cC cZ ((cQ, .object RX2) :: X) p0 p1 ch pl pa po pf ps r pa3 po3 pf3 ps3 hq)) rfl (List.mem_append_right _ List.mem_cons_self) rfl hl.1 rfl (Nat.le_of_ble_eq_true rfl) ⟨(Nat.le_of_ble_eq_true rfl), (Nat.le_of_ble_eq_true rfl)⟩ dX4_carryOut_54 (fun res w1 H locs hpo h => ?_)
          obtain ⟨rfl, rfl⟩ := hpo
          replace h := Hx.perm (w := catW ([[(d0, .inr (4, [.ref (α 0), .ref b0, .ref sl, .ref h0, .ref p0]))], [(h0, .inr (0, [.ref h1, .int (nI o), .int (nI z)]))], [(h1, qA cQ 7 f')], wS cI α V, wg'] : List va_W) ++ catW ([[(p0, .inr (1, [.ref p1, .int pl, .int pa3, .int po3, .int pf3, .int ps3]))], [(p1, .inl (cC, 80, .inl ch))]] : List va_W)) h (perm_2 7 ([[(d0, .inr (4, [.ref (α 0), .ref b0, .ref sl, .ref h0, .ref p0]))], [(h0, .inr (0, [.ref h1, .int (nI o), .int (nI z)]))], [(h1, qA cQ 7 f')], [(p0, .inr (1, [.ref p1, .int pl, .int pa3, .int po3, .int pf3, .int ps3]))], [(p1, .inl (cC, 80, .inl ch))], wS cI α V, wg'] : List va_W) [0, 1, 2, 5, 6] [3, 4] rfl (by decide)).symm
          replace h : Hx s G A ([(d0, .inr (4, [.ref (α 0), .ref b0, .ref sl, .ref h0, .ref p0])), (h0, .inr (0, [.ref h1, .int (nI o), .int (nI z)])), (h1, qA cQ 7 f'), (p0, .inr (1, [.ref p1, .int pl, .int pa3, .int po3, .int pf3, .int ps3])), (p1, .inl (cC, 80, .inl ch))] ++ wS cI α V ++ wg' : va_W) _ _ := h
          refine lv_if_eq (tgt := 71) hx hb dX4_carryOut_57 (by decide) (fun hc => ?_) (fun hc => ?_)
          · rw [if_pos hc] at hco
            refine lv_iconst (v := 0) hx hb dX4_carryOut_71 (by decide) ?_
            refine lv_istore_n (lv' := [(2, .int 0), (3, .int i), (1, .int dn0), (0, .ref d0)]) hx hb dX4_carryOut_72 rfl hl (by decide) rfl (fun ls hl => ?_)
            refine lv_iload_n hx hb dX4_carryOut_73 rfl (lv_at hl 0 rfl) ?_
            refine lv_if_eq (tgt := 90) hx hb dX4_carryOut_74 (by decide) (fun _ => ?_) (fun hc => absurd rfl hc)
            obtain ⟨z_1, ez_1⟩ : ∃ y : Int32, y = i + 1 := ⟨_, rfl⟩
            rw [← ez_1] at hco
            refine lv_iinc (v := z_1) (lv' := [(3, .int z_1), (2, .int 0), (1, .int dn0), (0, .ref d0)]) hx hb dX4_carryOut_90 hl (k := 1) rfl (by rw [ez_1]; rfl) (by decide) rfl (fun ls hl => ?_)
            refine lv_goto (tgt := 40) hx hb dX4_carryOut_93 (by decide) ?_
            exact ih V pa3 po3 pf3 ps3 dn0 0 _ _ _ _ hco h (lv_sub hl [0, 1, 2, 3] rfl)
          · rw [if_neg hc] at hco
            refine lv_aload_n hx hb dX4_carryOut_60 rfl (lv_at hl 3 rfl) ?_
            obtain ⟨r2, nu4, va4, qu4, sc4, lo4, wt4, hq2, hco⟩ := ob7_use hco
            replace h := Hx.perm (w := catW ([[(d0, .inr (4, [.ref (α 0), .ref b0, .ref sl, .ref h0, .ref p0]))], [(h0, .inr (0, [.ref h1, .int (nI o), .int (nI z)]))], [(h1, qA cQ 7 f')], [(p0, .inr (1, [.ref p1, .int pl, .int pa3, .int po3, .int pf3, .int ps3]))], [(p1, .inl (cC, 80, .inl ch))], wS cI α V, wg'] : List va_W)) h (perm_2 7 ([[(d0, .inr (4, [.ref (α 0), .ref b0, .ref sl, .ref h0, .ref p0]))], [(h0, .inr (0, [.ref h1, .int (nI o), .int (nI z)]))], [(h1, qA cQ 7 f')], [(p0, .inr (1, [.ref p1, .int pl, .int pa3, .int po3, .int pf3, .int ps3]))], [(p1, .inl (cC, 80, .inl ch))], wS cI α V, wg'] : List va_W) [1, 2, 6] [0, 5, 3, 4] rfl (by decide))
            refine r_callVY (wr := catW ([[(h0, .inr (0, [.ref h1, .int (nI o), .int (nI z)]))], [(h1, qA cQ 7 f')], wg'] : List va_W)) (wc := catW ([[(d0, .inr (4, [.ref (α 0), .ref b0, .ref sl, .ref h0, .ref p0]))], wS cI α V, [(p0, .inr (1, [.ref p1, .int pl, .int pa3, .int po3, .int pf3, .int ps3]))], [(p1, .inl (cC, 80, .inl ch))]] : List va_W)) (rest := []) (ci := 4) (N := 5) (Cn := RX4) (T := TX4) C h (cw_X4_carryOut_X4_carryOutOrder_143 C.hts) (CT.toY (c_X4_carryOutOrder l G cI cC cZ ((cQ, .object RX2) :: X) d0 b0 sl h0 (α 0) (α 1) (α 2) (α 3) (α 4) (α 5) (α 6) (α 7) (α 8) p0 p1 V.1 V.2.1 V.2.2.1 V.2.2.2.1 V.2.2.2.2.1 V.2.2.2.2.2 ch pl pa3 po3 pf3 ps3 r2 nu4 va4 qu4 sc4 lo4 wt4 hq2)) rfl (List.mem_append_right _ List.mem_cons_self) rfl hl.1 rfl (Nat.le_of_ble_eq_true rfl) ⟨(Nat.le_of_ble_eq_true rfl), (Nat.le_of_ble_eq_true rfl)⟩ dX4_carryOut_61 (fun res w1 H locs hpo h => ?_)
            obtain ⟨rfl, rfl⟩ := hpo
            replace h := Hx.perm (w := catW ([[(h0, .inr (0, [.ref h1, .int (nI o), .int (nI z)]))], [(h1, qA cQ 7 f')], wg'] : List va_W) ++ catW ([[(d0, .inr (4, [.ref (α 0), .ref b0, .ref sl, .ref h0, .ref p0]))], wS cI α (nu4, va4, qu4, sc4, lo4, wt4), [(p0, .inr (1, [.ref p1, .int pl, .int pa3, .int po3, .int pf3, .int ps3]))], [(p1, .inl (cC, 80, .inl ch))]] : List va_W)) h (perm_2 7 ([[(d0, .inr (4, [.ref (α 0), .ref b0, .ref sl, .ref h0, .ref p0]))], [(h0, .inr (0, [.ref h1, .int (nI o), .int (nI z)]))], [(h1, qA cQ 7 f')], [(p0, .inr (1, [.ref p1, .int pl, .int pa3, .int po3, .int pf3, .int ps3]))], [(p1, .inl (cC, 80, .inl ch))], wS cI α (nu4, va4, qu4, sc4, lo4, wt4), wg'] : List va_W) [1, 2, 6] [0, 5, 3, 4] rfl (by decide)).symm
            replace h : Hx s G A ([(d0, .inr (4, [.ref (α 0), .ref b0, .ref sl, .ref h0, .ref p0])), (h0, .inr (0, [.ref h1, .int (nI o), .int (nI z)])), (h1, qA cQ 7 f'), (p0, .inr (1, [.ref p1, .int pl, .int pa3, .int po3, .int pf3, .int ps3])), (p1, .inl (cC, 80, .inl ch))] ++ wS cI α (nu4, va4, qu4, sc4, lo4, wt4) ++ wg' : va_W) _ _ := h
            refine lv_if_lt (tgt := 71) hx hb dX4_carryOut_64 (by decide) (fun hc => ?_) (fun hc => ?_)
            · rw [if_pos hc] at hco
              refine lv_iconst (v := 0) hx hb dX4_carryOut_71 (by decide) ?_
              refine lv_istore_n (lv' := [(2, .int 0), (3, .int i), (1, .int dn0), (0, .ref d0)]) hx hb dX4_carryOut_72 rfl hl (by decide) rfl (fun ls hl => ?_)
              refine lv_iload_n hx hb dX4_carryOut_73 rfl (lv_at hl 0 rfl) ?_
              refine lv_if_eq (tgt := 90) hx hb dX4_carryOut_74 (by decide) (fun _ => ?_) (fun hc => absurd rfl hc)
              obtain ⟨z_2, ez_2⟩ : ∃ y : Int32, y = i + 1 := ⟨_, rfl⟩
              rw [← ez_2] at hco
              refine lv_iinc (v := z_2) (lv' := [(3, .int z_2), (2, .int 0), (1, .int dn0), (0, .ref d0)]) hx hb dX4_carryOut_90 hl (k := 1) rfl (by rw [ez_2]; rfl) (by decide) rfl (fun ls hl => ?_)
              refine lv_goto (tgt := 40) hx hb dX4_carryOut_93 (by decide) ?_
              exact ih (nu4, va4, qu4, sc4, lo4, wt4) pa3 po3 pf3 ps3 dn0 0 _ _ _ _ hco h (lv_sub hl [0, 1, 2, 3] rfl)
            · rw [if_neg hc] at hco
              refine lv_iconst (v := 1) hx hb dX4_carryOut_67 (by decide) ?_
              refine lv_goto (tgt := 72) hx hb dX4_carryOut_68 (by decide) ?_
              refine lv_istore_n (lv' := [(2, .int 1), (3, .int i), (1, .int dn0), (0, .ref d0)]) hx hb dX4_carryOut_72 rfl hl (by decide) rfl (fun ls hl => ?_)
              refine lv_iload_n hx hb dX4_carryOut_73 rfl (lv_at hl 0 rfl) ?_
              refine lv_if_eq (tgt := 90) hx hb dX4_carryOut_74 (by decide) (fun hc => absurd hc (by decide)) (fun _ => ?_)
              obtain ⟨r3, pa5, hq3, hco⟩ := ob2_use hco
              obtain ⟨z_dn, ez_dn⟩ : ∃ y : Int32, y = dn0 + 1 := ⟨_, rfl⟩
              rw [← ez_dn] at hco
              refine lv_iinc (v := z_dn) (lv' := [(1, .int z_dn), (2, .int 1), (3, .int i), (0, .ref d0)]) hx hb dX4_carryOut_77 hl (k := 2) rfl (by rw [ez_dn]; rfl) (by decide) rfl (fun ls hl => ?_)
              refine lv_aload_n hx hb dX4_carryOut_80 rfl (lv_at hl 3 rfl) ?_
              refine r_get C h 0 4 (ci := 4) (N := 5) (Cn := RX4) (T := TX4) rfl rfl (by decide) in_X4_carryOut_X4 lk_X4_carryOut_33 rfl dX4_carryOut_81 ?_
              refine lv_bipush (v := 59) hx hb dX4_carryOut_84 (by decide) ?_
              replace h := Hx.perm (w := catW ([[(d0, .inr (4, [.ref (α 0), .ref b0, .ref sl, .ref h0, .ref p0]))], [(h0, .inr (0, [.ref h1, .int (nI o), .int (nI z)]))], [(h1, qA cQ 7 f')], [(p0, .inr (1, [.ref p1, .int pl, .int pa3, .int po3, .int pf3, .int ps3]))], [(p1, .inl (cC, 80, .inl ch))], wS cI α (nu4, va4, qu4, sc4, lo4, wt4), wg'] : List va_W)) h (perm_2 7 ([[(d0, .inr (4, [.ref (α 0), .ref b0, .ref sl, .ref h0, .ref p0]))], [(h0, .inr (0, [.ref h1, .int (nI o), .int (nI z)]))], [(h1, qA cQ 7 f')], [(p0, .inr (1, [.ref p1, .int pl, .int pa3, .int po3, .int pf3, .int ps3]))], [(p1, .inl (cC, 80, .inl ch))], wS cI α (nu4, va4, qu4, sc4, lo4, wt4), wg'] : List va_W) [0, 1, 2, 5, 6] [3, 4] rfl (by decide))
              refine r_callVY (wr := catW ([[(d0, .inr (4, [.ref (α 0), .ref b0, .ref sl, .ref h0, .ref p0]))], [(h0, .inr (0, [.ref h1, .int (nI o), .int (nI z)]))], [(h1, qA cQ 7 f')], wS cI α (nu4, va4, qu4, sc4, lo4, wt4), wg'] : List va_W)) (wc := catW ([[(p0, .inr (1, [.ref p1, .int pl, .int pa3, .int po3, .int pf3, .int ps3]))], [(p1, .inl (cC, 80, .inl ch))]] : List va_W)) (rest := []) (ci := 1) (N := 6) (Cn := RX1) (T := TX1) C h (cw_X4_carryOut_X1_readSign_146 C.hts) (CT.toY (c_X1_readSign l G cI cC cZ ((cQ, .object RX2) :: X) p0 p1 ch pl pa3 po3 pf3 ps3 59 r3 pa5 hq3)) rfl (List.mem_append_right _ List.mem_cons_self) rfl hl.1 rfl (Nat.le_of_ble_eq_true rfl) ⟨(Nat.le_of_ble_eq_true rfl), (Nat.le_of_ble_eq_true rfl)⟩ dX4_carryOut_86 (fun res w1 H locs hpo h => ?_)
              obtain ⟨rfl, rfl⟩ := hpo
              replace h := Hx.perm (w := catW ([[(d0, .inr (4, [.ref (α 0), .ref b0, .ref sl, .ref h0, .ref p0]))], [(h0, .inr (0, [.ref h1, .int (nI o), .int (nI z)]))], [(h1, qA cQ 7 f')], wS cI α (nu4, va4, qu4, sc4, lo4, wt4), wg'] : List va_W) ++ catW ([[(p0, .inr (1, [.ref p1, .int pl, .int pa5, .int po3, .int pf3, .int ps3]))], [(p1, .inl (cC, 80, .inl ch))]] : List va_W)) h (perm_2 7 ([[(d0, .inr (4, [.ref (α 0), .ref b0, .ref sl, .ref h0, .ref p0]))], [(h0, .inr (0, [.ref h1, .int (nI o), .int (nI z)]))], [(h1, qA cQ 7 f')], [(p0, .inr (1, [.ref p1, .int pl, .int pa5, .int po3, .int pf3, .int ps3]))], [(p1, .inl (cC, 80, .inl ch))], wS cI α (nu4, va4, qu4, sc4, lo4, wt4), wg'] : List va_W) [0, 1, 2, 5, 6] [3, 4] rfl (by decide)).symm
              replace h : Hx s G A ([(d0, .inr (4, [.ref (α 0), .ref b0, .ref sl, .ref h0, .ref p0])), (h0, .inr (0, [.ref h1, .int (nI o), .int (nI z)])), (h1, qA cQ 7 f'), (p0, .inr (1, [.ref p1, .int pl, .int pa5, .int po3, .int pf3, .int ps3])), (p1, .inl (cC, 80, .inl ch))] ++ wS cI α (nu4, va4, qu4, sc4, lo4, wt4) ++ wg' : va_W) _ _ := h
              refine lv_istore_n (lv' := [(2, .int r3), (1, .int z_dn), (3, .int i), (0, .ref d0)]) hx hb dX4_carryOut_89 rfl hl (by decide) rfl (fun ls hl => ?_)
              obtain ⟨z_3, ez_3⟩ : ∃ y : Int32, y = i + 1 := ⟨_, rfl⟩
              rw [← ez_3] at hco
              refine lv_iinc (v := z_3) (lv' := [(3, .int z_3), (2, .int r3), (1, .int z_dn), (0, .ref d0)]) hx hb dX4_carryOut_90 hl (k := 2) rfl (by rw [ez_3]; rfl) (by decide) rfl (fun ls hl => ?_)
              refine lv_goto (tgt := 40) hx hb dX4_carryOut_93 (by decide) ?_
              exact ih (nu4, va4, qu4, sc4, lo4, wt4) pa5 po3 pf3 ps3 z_dn r3 _ _ _ _ hco h (lv_sub hl [0, 1, 2, 3] rfl)
  exact loop fu S 0 po1 pf1 ps1 0 1 0 _ _ _ hco h (lv_sub hl [0, 1, 2, 3] rfl)
set_option maxHeartbeats 4000000 in
set_option maxRecDepth 100000 in
theorem c_X4_carryOut_bad (l : Launch) (G : va_G) (cI cC cZ cQ : ClassId) (X : List (ClassId × FieldType)) (d0 b0 sl h0 h1 p0 p1 o z : Nat) (ho : o < 7) (hz : z ≤ 6) (f : Nat → Option Nat) (Cs : Nat → Option T6) (wg : va_W) (hRG : RGs cI f Cs 7 wg) (α : Nat → Nat) (S : T6) (ch : Nat → Int32) (pl pa po pf ps rv pa1 po1 pf1 ps1 : Int32) (hff : fX1_findFault ch pl pa po pf ps = some (rv, pa1, po1, pf1, ps1)) (hne : ¬ rv = -6) : CY l yX4_carryOut wsX4_carryOut rm_X4_carryOut G (TQ cI cC cZ cQ X) [.ref d0] ([(d0, .inr (4, [.ref (α 0), .ref b0, .ref sl, .ref h0, .ref p0])), (h0, .inr (0, [.ref h1, .int (nI o), .int (nI z)])), (h1, qA cQ 7 f), (p0, .inr (1, [.ref p1, .int pl, .int pa, .int po, .int pf, .int ps])), (p1, .inl (cC, 80, .inl ch))] ++ wS cI α S ++ wg : va_W) ((po_cbad cI cC cQ d0 b0 sl h0 h1 p0 p1 o z f wg α S ch pl pa1 po1 pf1 ps1)) 9 340 := by
  refine CY.of (cc := cX4_carryOut) (maxL := 4) (ret := (some .int)) RX4 rfl (by decide) rfl (Nat.le_of_ble_eq_true rfl) ?_
  intro p e s m args below meth c A ls C hr hlocks hnm h hl
  have hx := C.hx
  have hb := C.hb
  have hl : lv_has ls 4 [(0, .ref d0)] := hl
  refine lv_aload_n hx hb dX4_carryOut_0 rfl (lv_at hl 0 rfl) ?_
  refine r_get C h 0 4 (ci := 4) (N := 5) (Cn := RX4) (T := TX4) rfl rfl (by decide) in_X4_carryOut_X4 lk_X4_carryOut_33 rfl dX4_carryOut_1 ?_
  replace h := Hx.perm (w := catW ([[(d0, .inr (4, [.ref (α 0), .ref b0, .ref sl, .ref h0, .ref p0]))], [(h0, .inr (0, [.ref h1, .int (nI o), .int (nI z)]))], [(h1, qA cQ 7 f)], [(p0, .inr (1, [.ref p1, .int pl, .int pa, .int po, .int pf, .int ps]))], [(p1, .inl (cC, 80, .inl ch))], wS cI α S, wg] : List va_W)) h (perm_2 7 ([[(d0, .inr (4, [.ref (α 0), .ref b0, .ref sl, .ref h0, .ref p0]))], [(h0, .inr (0, [.ref h1, .int (nI o), .int (nI z)]))], [(h1, qA cQ 7 f)], [(p0, .inr (1, [.ref p1, .int pl, .int pa, .int po, .int pf, .int ps]))], [(p1, .inl (cC, 80, .inl ch))], wS cI α S, wg] : List va_W) [0, 1, 2, 5, 6] [3, 4] rfl (by decide))
  refine r_callVY (wr := catW ([[(d0, .inr (4, [.ref (α 0), .ref b0, .ref sl, .ref h0, .ref p0]))], [(h0, .inr (0, [.ref h1, .int (nI o), .int (nI z)]))], [(h1, qA cQ 7 f)], wS cI α S, wg] : List va_W)) (wc := catW ([[(p0, .inr (1, [.ref p1, .int pl, .int pa, .int po, .int pf, .int ps]))], [(p1, .inl (cC, 80, .inl ch))]] : List va_W)) (rest := []) (ci := 1) (N := 6) (Cn := RX1) (T := TX1) C h (cw_X4_carryOut_X1_findFault_133 C.hts) (CT.toY (c_X1_findFault l G cI cC cZ ((cQ, .object RX2) :: X) p0 p1 ch pl pa po pf ps rv pa1 po1 pf1 ps1 hff)) rfl (List.mem_append_right _ List.mem_cons_self) rfl hl.1 rfl (Nat.le_of_ble_eq_true rfl) ⟨(Nat.le_of_ble_eq_true rfl), (Nat.le_of_ble_eq_true rfl)⟩ dX4_carryOut_4 (fun res w1 H locs hpo h => ?_)
  obtain ⟨rfl, rfl⟩ := hpo
  replace h := Hx.perm (w := catW ([[(d0, .inr (4, [.ref (α 0), .ref b0, .ref sl, .ref h0, .ref p0]))], [(h0, .inr (0, [.ref h1, .int (nI o), .int (nI z)]))], [(h1, qA cQ 7 f)], wS cI α S, wg] : List va_W) ++ catW ([[(p0, .inr (1, [.ref p1, .int pl, .int pa1, .int po1, .int pf1, .int ps1]))], [(p1, .inl (cC, 80, .inl ch))]] : List va_W)) h (perm_2 7 ([[(d0, .inr (4, [.ref (α 0), .ref b0, .ref sl, .ref h0, .ref p0]))], [(h0, .inr (0, [.ref h1, .int (nI o), .int (nI z)]))], [(h1, qA cQ 7 f)], [(p0, .inr (1, [.ref p1, .int pl, .int pa1, .int po1, .int pf1, .int ps1]))], [(p1, .inl (cC, 80, .inl ch))], wS cI α S, wg] : List va_W) [0, 1, 2, 5, 6] [3, 4] rfl (by decide)).symm
  replace h : Hx s G A ([(d0, .inr (4, [.ref (α 0), .ref b0, .ref sl, .ref h0, .ref p0])), (h0, .inr (0, [.ref h1, .int (nI o), .int (nI z)])), (h1, qA cQ 7 f), (p0, .inr (1, [.ref p1, .int pl, .int pa1, .int po1, .int pf1, .int ps1])), (p1, .inl (cC, 80, .inl ch))] ++ wS cI α S ++ wg : va_W) _ _ := h
  refine lv_bipush (v := (-6)) hx hb dX4_carryOut_7 (by decide) ?_
  refine lv_icmp_eq (tgt := 15) hx hb dX4_carryOut_9 (by decide) (fun hc => absurd hc hne) (fun _ => ?_)
  refine lv_bipush (v := (-3)) hx hb dX4_carryOut_12 (by decide) ?_
  refine W.widen (k := 9) (n := 340) (by omega) (by omega) ?_
  exact y_iret C h ⟨rfl, rfl⟩ hr hlocks dX4_carryOut_14
