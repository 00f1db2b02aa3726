/-! ===== LineDoubler: undo, save, restore ===== -/
def po_undo (cI cQ : ClassId) (d0 b0 sl h0 h1 p0 o z : Nat) (f : Nat → Option Nat) (Cs : Nat → Option T6) (α : Nat → Nat) (V : T6) : Option Value → va_W → Prop := fun res w' => res = some (.int (nI (z - 1))) ∧ ∃ (wg' : va_W) (Y : T6), CP V Y ∧ RGs cI f Cs 7 wg' ∧ w' = [(d0, .inr (4, [.ref (α 0), .ref b0, .ref sl, .ref h0, .ref p0])), (h0, .inr (0, [.ref h1, .int (nI o), .int (nI (z - 1))])), (h1, qA cQ 7 f)] ++ wS cI α Y ++ wg'
def po_undo0 (cI cQ : ClassId) (d0 b0 sl h0 h1 p0 o : Nat) (f : Nat → Option Nat) (wg : va_W) (α : Nat → Nat) (S : T6) : Option Value → va_W → Prop := fun res w' => res = some (.int (-5)) ∧ w' = [(d0, .inr (4, [.ref (α 0), .ref b0, .ref sl, .ref h0, .ref p0])), (h0, .inr (0, [.ref h1, .int (nI o), .int (nI 0)])), (h1, qA cQ 7 f)] ++ wS cI α S ++ wg
def po_save (cI cQ : ClassId) (d0 b0 sl h0 p0 k : Nat) (Cs : Nat → Option T6) (α : Nat → Nat) (S : T6) : Option Value → va_W → Prop := fun res w' => res = some (.int (S.1 0)) ∧ ∃ (f' : Nat → Option Nat) (wg' : va_W) (Y : T6), CP S Y ∧ RGs cI f' (va_up Cs k (some Y)) 2 wg' ∧ w' = [(d0, .inr (4, [.ref (α 0), .ref b0, .ref sl, .ref h0, .ref p0])), (sl, qA cQ 2 f')] ++ wS cI α S ++ wg'
def po_saveb (cI cQ : ClassId) (d0 b0 sl h0 p0 : Nat) (f : Nat → Option Nat) (wg : va_W) (α : Nat → Nat) (S : T6) : Option Value → va_W → Prop := fun res w' => res = some (.int (-2)) ∧ w' = [(d0, .inr (4, [.ref (α 0), .ref b0, .ref sl, .ref h0, .ref p0])), (sl, qA cQ 2 f)] ++ wS cI α S ++ wg
def po_rest (cI cQ : ClassId) (d0 b0 sl h0 h1 p0 o z : Nat) (fs : Nat → Option Nat) (Cl : Nat → Option T6) (Cs : Nat → Option T6) (α : Nat → Nat) (S V : T6) (rv ho' hs' : Int32) : Option Value → va_W → Prop := fun res w' => res = some (.int rv) ∧ ∃ (f' : Nat → Option Nat) (wl' wg' : va_W) (Y Y2 : T6), CP S Y ∧ CP V Y2 ∧ RGs cI fs Cl 2 wl' ∧ RGs cI f' (va_up Cs ((o + z) % 7) (some Y)) 7 wg' ∧ w' = [(d0, .inr (4, [.ref (α 0), .ref b0, .ref sl, .ref h0, .ref p0])), (sl, qA cQ 2 fs), (h0, .inr (0, [.ref h1, .int ho', .int hs'])), (h1, qA cQ 7 f')] ++ wS cI α Y2 ++ (wl' ++ wg')
def po_restn (cI cQ : ClassId) (d0 b0 sl h0 h1 p0 o z : Nat) (fs f : Nat → Option Nat) (wl wg : va_W) (α : Nat → Nat) (S : T6) (rv : Int32) : Option Value → va_W → Prop := fun res w' => res = some (.int rv) ∧ w' = [(d0, .inr (4, [.ref (α 0), .ref b0, .ref sl, .ref h0, .ref p0])), (sl, qA cQ 2 fs), (h0, .inr (0, [.ref h1, .int (nI o), .int (nI z)])), (h1, qA cQ 7 f)] ++ wS cI α S ++ (wl ++ wg)
theorem slt_some {cI : ClassId} {o : Option Nat} {V : T6} {w : va_W} (h : SLt cI o (some V) w) : ∃ α : Nat → Nat, o = some (α 0) ∧ w = wS cI α V := by
  cases o with
  | none => exact False.elim h
  | some a =>
    obtain ⟨α, h1, h2⟩ := h
    exact ⟨α, by rw [h1], h2⟩
theorem slt_same {cI : ClassId} {α : Nat → Nat} {V : T6} : SLt cI (some (α 0)) (some V) (wS cI α V) := ⟨α, rfl, rfl⟩
theorem slt_null {cI : ClassId} {o : Option Nat} {w : va_W} (h : SLt cI o none w) : o = none := by
  cases o with
  | none => rfl
  | some a => exact False.elim h
theorem perm_d {α : Type} (a b c d : List α) : (a ++ b ++ (c ++ d)).Perm (a ++ c ++ (b ++ d)) := by
  rw [List.append_assoc, List.append_assoc]
  refine List.Perm.append_left a ?_
  rw [← List.append_assoc, ← List.append_assoc]
  exact List.perm_append_comm.append_right d
def rm_X4_undo : Room := { frames := 3, cells := 0, slots := 0, locals := 60 }
set_option maxRecDepth 20000 in
theorem lk_X4_undo_26 : Cond.fieldLink RX4 26 "LineDoubler" "history" "LLineDoubler$History;" ∈ wsX4_undo := List.mem_of_getElem? (i := 1) (by decide +kernel)
set_option maxRecDepth 20000 in
theorem lk_X4_undo_10 : Cond.fieldLink RX4 10 "LineDoubler" "state" "LLineDoubler$State;" ∈ wsX4_undo := List.mem_of_getElem? (i := 2) (by decide +kernel)
set_option maxRecDepth 20000 in
theorem in_X4_undo_X4 : ∀ x ∈ wsX40, x ∈ wsX4_undo := mem_r _ [37, 38, 39, 40, 41] (by decide +kernel)
set_option maxRecDepth 20000 in
theorem in_X4_undo_X0 : ∀ x ∈ wsX00, x ∈ wsX4_undo := mem_r _ [42, 43, 44] (by decide +kernel)
set_option maxRecDepth 20000 in
theorem cw_X4_undo_X0_takeLatest_150 {s : State} {args : Array Value} (hts : ∀ w ∈ wsX4_undo, w.before args s = true) : CallW rm_X4_undo s args RX4 RX0 150 yX0_takeLatest cX0_takeLatest 1 (some (.object "LineDoubler$State")) wsX0_takeLatest rm_X0_takeLatest 0 0 0 :=
  cwV 0 hts gX4_undo_X0_takeLatest rfl rfl rfl (by decide +kernel) ⟨Nat.le_of_ble_eq_true rfl, Nat.le_of_ble_eq_true rfl⟩
set_option maxRecDepth 20000 in
theorem cw_X4_undo_X2_copyFrom_111 {s : State} {args : Array Value} (hts : ∀ w ∈ wsX4_undo, w.before args s = true) : CallW rm_X4_undo s args RX4 RX2 111 yX2_copyFrom cX2_copyFrom 2 none wsX2_copyFrom rm_X2_copyFrom 0 0 1 :=
  cwV 1 hts gX4_undo_X2_copyFrom rfl rfl rfl (by decide +kernel) ⟨Nat.le_of_ble_eq_true rfl, Nat.le_of_ble_eq_true rfl⟩
set_option maxHeartbeats 4000000 in
set_option maxRecDepth 100000 in
theorem c_X4_undo (l : Launch) (G : va_G) (cI cC cZ cQ : ClassId) (X : List (ClassId × FieldType)) (d0 b0 sl h0 h1 p0 o z : Nat) (ho : o < 7) (hz : z ≤ 6) (f : Nat → Option Nat) (Cs : Nat → Option T6) (wg : va_W) (hRG : RGs cI f Cs 7 wg) (α : Nat → Nat) (S : T6) (hz0 : 0 < z) (V : T6) (hV : Cs ((o + (z - 1)) % 7) = some V) : CY l yX4_undo wsX4_undo rm_X4_undo G (TQ cI cC cZ cQ X) [.ref d0] ([(d0, .inr (4, [.ref (α 0), .ref b0, .ref sl, .ref h0, .ref p0])), (h0, .inr (0, [.ref h1, .int (nI o), .int (nI z)])), (h1, qA cQ 7 f)] ++ wS cI α S ++ wg : va_W) ((po_undo cI cQ d0 b0 sl h0 h1 p0 o z f Cs α V)) 0 0 := by
  refine CY.of (cc := cX4_undo) (maxL := 2) (ret := (some .int)) RX4 rfl (by decide) rfl (Nat.le_of_ble_eq_true rfl) ?_
  intro p e s m args below meth c A ls C hr hlocks hnm h hl
  have hx := C.hx
  have hb := C.hb
  have hl : lv_has ls 2 [(0, .ref d0)] := hl
  obtain ⟨wr, wi, hs, hp, hput⟩ := RGs.take 7 wg ((o + (z - 1)) % 7) (by omega) hRG
  rw [hV] at hs
  obtain ⟨γ, hfa, rfl⟩ := slt_some hs
  refine lv_aload_n hx hb dX4_undo_0 rfl (lv_at hl 0 rfl) ?_
  refine r_get C h 0 3 (ci := 4) (N := 5) (Cn := RX4) (T := TX4) rfl rfl (by decide) in_X4_undo_X4 lk_X4_undo_26 rfl dX4_undo_1 ?_
  replace h := h.perm (hp.append_left _)
  replace h := Hx.perm (w := catW ([[(d0, .inr (4, [.ref (α 0), .ref b0, .ref sl, .ref h0, .ref p0]))], [(h0, .inr (0, [.ref h1, .int (nI o), .int (nI z)]))], [(h1, qA cQ 7 f)], wS cI α S, wr, wS cI γ V] : List va_W)) h (perm_2 6 ([[(d0, .inr (4, [.ref (α 0), .ref b0, .ref sl, .ref h0, .ref p0]))], [(h0, .inr (0, [.ref h1, .int (nI o), .int (nI z)]))], [(h1, qA cQ 7 f)], wS cI α S, wr, wS cI γ V] : List va_W) [0, 3, 5, 4] [1, 2] rfl (by decide))
  refine r_callVY (rest := []) (ci := 0) (N := 3) (Cn := RX0) (T := TX0) C h (cw_X4_undo_X0_takeLatest_150 C.hts) (c_X0_takeLatest l G cI cC cZ cQ X h0 h1 o z ho hz f) rfl (List.mem_append_right _ List.mem_cons_self) rfl hl.1 rfl (Nat.le_of_ble_eq_true rfl) ⟨(Nat.le_of_ble_eq_true rfl), (Nat.le_of_ble_eq_true rfl)⟩ dX4_undo_4 (fun res w1 H locs hpo hn => ?_)
  clear h
  obtain ⟨h9, -, -⟩ | ⟨-, rfl, rfl⟩ := hpo
  · omega
  have h := hn
  clear hn
  rw [hfa]
  replace h := Hx.perm (w := catW ([[(d0, .inr (4, [.ref (α 0), .ref b0, .ref sl, .ref h0, .ref p0]))], wS cI α S, wS cI γ V, wr] : List va_W) ++ catW ([[(h0, .inr (0, [.ref h1, .int (nI o), .int (nI (z - 1))]))], [(h1, qA cQ 7 f)]] : List va_W)) h (perm_2 6 ([[(d0, .inr (4, [.ref (α 0), .ref b0, .ref sl, .ref h0, .ref p0]))], [(h0, .inr (0, [.ref h1, .int (nI o), .int (nI (z - 1))]))], [(h1, qA cQ 7 f)], wS cI α S, wS cI γ V, wr] : List va_W) [0, 3, 4, 5] [1, 2] rfl (by decide)).symm
  replace h : Hx s G A ([(d0, .inr (4, [.ref (α 0), .ref b0, .ref sl, .ref h0, .ref p0])), (h0, .inr (0, [.ref h1, .int (nI o), .int (nI (z - 1))])), (h1, qA cQ 7 f)] ++ wS cI α S ++ wS cI γ V ++ wr : va_W) _ _ := h
  refine lv_astore_n (lv' := [(1, .ref (γ 0)), (0, .ref d0)]) hx hb dX4_undo_7 rfl hl (by decide) rfl (fun ls hl => ?_)
  refine lv_aload_n hx hb dX4_undo_8 rfl (lv_at hl 0 rfl) ?_
  refine lv_ifnonnull (tgt := 15) hx hb dX4_undo_9 (by decide) ?_
  refine lv_aload_n hx hb dX4_undo_15 rfl (lv_at hl 1 rfl) ?_
  refine r_get C h 0 0 (ci := 4) (N := 5) (Cn := RX4) (T := TX4) rfl rfl (by decide) in_X4_undo_X4 lk_X4_undo_10 rfl dX4_undo_16 ?_
  refine lv_aload_n hx hb dX4_undo_19 rfl (lv_at hl 0 rfl) ?_
  obtain ⟨Y, hY⟩ := copy_any S V
  replace h := Hx.perm (w := catW ([[(d0, .inr (4, [.ref (α 0), .ref b0, .ref sl, .ref h0, .ref p0]))], [(h0, .inr (0, [.ref h1, .int (nI o), .int (nI (z - 1))]))], [(h1, qA cQ 7 f)], wS cI α S, wS cI γ V, wr] : List va_W)) h (perm_2 6 ([[(d0, .inr (4, [.ref (α 0), .ref b0, .ref sl, .ref h0, .ref p0]))], [(h0, .inr (0, [.ref h1, .int (nI o), .int (nI (z - 1))]))], [(h1, qA cQ 7 f)], wS cI α S, wS cI γ V, wr] : List va_W) [0, 1, 2, 5] [3, 4] rfl (by decide))
  refine r_callVY (wr := catW ([[(d0, .inr (4, [.ref (α 0), .ref b0, .ref sl, .ref h0, .ref p0]))], [(h0, .inr (0, [.ref h1, .int (nI o), .int (nI (z - 1))]))], [(h1, qA cQ 7 f)], wr] : List va_W)) (wc := catW ([wS cI α S, wS cI γ V] : List va_W)) (rest := []) (ci := 2) (N := 6) (Cn := RX2) (T := TX2) C h (cw_X4_undo_X2_copyFrom_111 C.hts) (CT.toY (c_X2_copyFrom l G cI cC cZ ((cQ, .object RX2) :: X) (α 0) (α 1) (α 2) (α 3) (α 4) (α 5) (α 6) (α 7) (α 8) (γ 0) (γ 1) (γ 2) (γ 3) (γ 4) (γ 5) (γ 6) (γ 7) (γ 8) S.1 S.2.1 S.2.2.1 S.2.2.2.1 S.2.2.2.2.1 S.2.2.2.2.2 V.1 V.2.1 V.2.2.1 V.2.2.2.1 V.2.2.2.2.1 V.2.2.2.2.2 Y.1 Y.2.1 Y.2.2.1 Y.2.2.2.1 Y.2.2.2.2.1 Y.2.2.2.2.2 hY)) rfl (List.mem_append_right _ List.mem_cons_self) rfl hl.1 rfl (Nat.le_of_ble_eq_true rfl) ⟨(Nat.le_of_ble_eq_true rfl), (Nat.le_of_ble_eq_true rfl)⟩ dX4_undo_20 (fun res w1 H locs hpo h => ?_)
  obtain ⟨rfl, rfl⟩ := hpo
  replace h := Hx.perm (w := catW ([[(d0, .inr (4, [.ref (α 0), .ref b0, .ref sl, .ref h0, .ref p0]))], [(h0, .inr (0, [.ref h1, .int (nI o), .int (nI (z - 1))]))], [(h1, qA cQ 7 f)], wr] : List va_W) ++ catW ([wS cI α Y, wS cI γ V] : List va_W)) h (perm_2 6 ([[(d0, .inr (4, [.ref (α 0), .ref b0, .ref sl, .ref h0, .ref p0]))], [(h0, .inr (0, [.ref h1, .int (nI o), .int (nI (z - 1))]))], [(h1, qA cQ 7 f)], wS cI α Y, wS cI γ V, wr] : List va_W) [0, 1, 2, 5] [3, 4] rfl (by decide)).symm
  replace h : Hx s G A ([(d0, .inr (4, [.ref (α 0), .ref b0, .ref sl, .ref h0, .ref p0])), (h0, .inr (0, [.ref h1, .int (nI o), .int (nI (z - 1))])), (h1, qA cQ 7 f)] ++ wS cI α Y ++ wS cI γ V ++ wr : va_W) _ _ := h
  refine lv_aload_n hx hb dX4_undo_23 rfl (lv_at hl 1 rfl) ?_
  refine r_get C h 0 3 (ci := 4) (N := 5) (Cn := RX4) (T := TX4) rfl rfl (by decide) in_X4_undo_X4 lk_X4_undo_26 rfl dX4_undo_24 ?_
  refine r_getN C h 1 2 (ci := 0) (N := 3) (Cn := RX0) (T := TX0) rfl rfl (by decide) in_X4_undo_X0 lkN_4_98 rfl dX4_undo_27 ?_
  obtain ⟨wg', hg1, hg2⟩ := hput f Cs (wS cI γ V) (fun j hj => rfl) (fun j hj => rfl) (by rw [hfa, hV]; exact slt_same)
  replace h := Hx.perm (w := catW ([[(d0, .inr (4, [.ref (α 0), .ref b0, .ref sl, .ref h0, .ref p0]))], [(h0, .inr (0, [.ref h1, .int (nI o), .int (nI (z - 1))]))], [(h1, qA cQ 7 f)], wS cI α Y, wS cI γ V, wr] : List va_W)) h (perm_2 6 ([[(d0, .inr (4, [.ref (α 0), .ref b0, .ref sl, .ref h0, .ref p0]))], [(h0, .inr (0, [.ref h1, .int (nI o), .int (nI (z - 1))]))], [(h1, qA cQ 7 f)], wS cI α Y, wS cI γ V, wr] : List va_W) [0, 1, 2, 3] [5, 4] rfl (by decide))
  replace h := h.perm (hg2.symm.append_left _)
  exact y_iret C h ⟨rfl, wg', Y, ⟨S, hY⟩, hg1, rfl⟩ hr hlocks dX4_undo_30
set_option maxHeartbeats 4000000 in
set_option maxRecDepth 100000 in
theorem c_X4_undo0 (l : Launch) (G : va_G) (cI cC cZ cQ : ClassId) (X : List (ClassId × FieldType)) (d0 b0 sl h0 h1 p0 o : Nat) (ho : o < 7) (f : Nat → Option Nat) (Cs : Nat → Option T6) (wg : va_W) (hRG : RGs cI f Cs 7 wg) (α : Nat → Nat) (S : T6) : CY l yX4_undo wsX4_undo rm_X4_undo G (TQ cI cC cZ cQ X) [.ref d0] ([(d0, .inr (4, [.ref (α 0), .ref b0, .ref sl, .ref h0, .ref p0])), (h0, .inr (0, [.ref h1, .int (nI o), .int (nI 0)])), (h1, qA cQ 7 f)] ++ wS cI α S ++ wg : va_W) ((po_undo0 cI cQ d0 b0 sl h0 h1 p0 o f wg α S)) 0 0 := by
  refine CY.of (cc := cX4_undo) (maxL := 2) (ret := (some .int)) RX4 rfl (by decide) rfl (Nat.le_of_ble_eq_true rfl) ?_
  intro p e s m args below meth c A ls C hr hlocks hnm h hl
  have hx := C.hx
  have hb := C.hb
  have hl : lv_has ls 2 [(0, .ref d0)] := hl
  refine lv_aload_n hx hb dX4_undo_0 rfl (lv_at hl 0 rfl) ?_
  refine r_get C h 0 3 (ci := 4) (N := 5) (Cn := RX4) (T := TX4) rfl rfl (by decide) in_X4_undo_X4 lk_X4_undo_26 rfl dX4_undo_1 ?_
  replace h := Hx.perm (w := catW ([[(d0, .inr (4, [.ref (α 0), .ref b0, .ref sl, .ref h0, .ref p0]))], [(h0, .inr (0, [.ref h1, .int (nI o), .int (nI 0)]))], [(h1, qA cQ 7 f)], wS cI α S, wg] : List va_W)) h (perm_2 5 ([[(d0, .inr (4, [.ref (α 0), .ref b0, .ref sl, .ref h0, .ref p0]))], [(h0, .inr (0, [.ref h1, .int (nI o), .int (nI 0)]))], [(h1, qA cQ 7 f)], wS cI α S, wg] : List va_W) [0, 3, 4] [1, 2] rfl (by decide))
  refine r_callVY (rest := []) (ci := 0) (N := 3) (Cn := RX0) (T := TX0) C h (cw_X4_undo_X0_takeLatest_150 C.hts) (c_X0_takeLatest l G cI cC cZ cQ X h0 h1 o 0 ho (by omega) f) rfl (List.mem_append_right _ List.mem_cons_self) rfl hl.1 rfl (Nat.le_of_ble_eq_true rfl) ⟨(Nat.le_of_ble_eq_true rfl), (Nat.le_of_ble_eq_true rfl)⟩ dX4_undo_4 (fun res w1 H locs hpo hn => ?_)
  clear h
  obtain ⟨-, rfl, rfl⟩ | ⟨h9, -, -⟩ := hpo
  rotate_left
  · omega
  have h := hn
  clear hn
  replace h := Hx.perm (w := catW ([[(d0, .inr (4, [.ref (α 0), .ref b0, .ref sl, .ref h0, .ref p0]))], wS cI α S, wg] : List va_W) ++ catW ([[(h0, .inr (0, [.ref h1, .int (nI o), .int (nI 0)]))], [(h1, qA cQ 7 f)]] : List va_W)) h (perm_2 5 ([[(d0, .inr (4, [.ref (α 0), .ref b0, .ref sl, .ref h0, .ref p0]))], [(h0, .inr (0, [.ref h1, .int (nI o), .int (nI 0)]))], [(h1, qA cQ 7 f)], wS cI α S, wg] : List va_W) [0, 3, 4] [1, 2] rfl (by decide)).symm
  replace h : Hx s G A ([(d0, .inr (4, [.ref (α 0), .ref b0, .ref sl, .ref h0, .ref p0])), (h0, .inr (0, [.ref h1, .int (nI o), .int (nI 0)])), (h1, qA cQ 7 f)] ++ wS cI α S ++ wg : va_W) _ _ := h
  refine lv_astore_nN (lv' := [(1, .null), (0, .ref d0)]) hx hb dX4_undo_7 rfl hl (by decide) rfl (fun ls hl => ?_)
  refine lv_aload_nN hx hb dX4_undo_8 rfl (lv_at hl 0 rfl) ?_
  refine lv_ifnonnullN hx hb dX4_undo_9 ?_
  refine lv_bipush (v := (-5)) hx hb dX4_undo_12 (by decide) ?_
  exact y_iret C h ⟨rfl, rfl⟩ hr hlocks dX4_undo_14
