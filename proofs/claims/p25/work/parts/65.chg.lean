/-! ===== LineDoubler: set, value, slip, pass, flush ===== -/
def po_chg (cI cQ : ClassId) (d0 b0 sl h0 h1 p0 o z : Nat) (Cs : Nat → Option T6) (α : Nat → Nat) (S S' : T6) (rv ho' hs' : Int32) : Option Value → va_W → Prop := fun res w' => res = some (.int rv) ∧ ∃ (f' : Nat → Option Nat) (wg' : va_W) (Y : T6), CP S Y ∧ RGs cI f' (va_up Cs ((o + z) % 7) (some Y)) 7 wg' ∧ w' = [(d0, .inr (4, [.ref (α 0), .ref b0, .ref sl, .ref h0, .ref p0])), (h0, .inr (0, [.ref h1, .int ho', .int hs'])), (h1, qA cQ 7 f')] ++ wS cI α S' ++ wg'
def rm_X4_set : Room := { frames := 5, cells := 9, slots := 340, locals := 103 }
set_option maxRecDepth 20000 in
theorem lk_X4_set_26 : Cond.fieldLink RX4 26 "LineDoubler" "history" "LLineDoubler$History;" ∈ wsX4_set := List.mem_of_getElem? (i := 1) (by decide +kernel)
set_option maxRecDepth 20000 in
theorem lk_X4_set_10 : Cond.fieldLink RX4 10 "LineDoubler" "state" "LLineDoubler$State;" ∈ wsX4_set := List.mem_of_getElem? (i := 2) (by decide +kernel)
set_option maxRecDepth 20000 in
theorem in_X4_set_X4 : ∀ x ∈ wsX40, x ∈ wsX4_set := mem_r _ [69, 70, 71, 72, 73] (by decide +kernel)
set_option maxRecDepth 20000 in
theorem cw_X4_set_X0_prepare_37 {s : State} {args : Array Value} (hts : ∀ w ∈ wsX4_set, w.before args s = true) : CallW rm_X4_set s args RX4 RX0 37 yX0_prepare cX0_prepare 2 none wsX0_prepare rm_X0_prepare 9 340 1 :=
  cwV 1 hts gX4_set_X0_prepare rfl rfl rfl (by decide +kernel) ⟨Nat.le_of_ble_eq_true rfl, Nat.le_of_ble_eq_true rfl⟩
set_option maxRecDepth 20000 in
theorem cw_X4_set_X2_changeSetting_41 {s : State} {args : Array Value} (hts : ∀ w ∈ wsX4_set, w.before args s = true) : CallW rm_X4_set s args RX4 RX2 41 yX2_changeSetting cX2_changeSetting 4 (some .int) wsX2_changeSetting rm_X2_changeSetting 0 0 2 :=
  cwV 2 hts gX4_set_X2_changeSetting rfl rfl rfl (by decide +kernel) ⟨Nat.le_of_ble_eq_true rfl, Nat.le_of_ble_eq_true rfl⟩
set_option maxRecDepth 20000 in
theorem cw_X4_set_X0_keepIfDone_45 {s : State} {args : Array Value} (hts : ∀ w ∈ wsX4_set, w.before args s = true) : CallW rm_X4_set s args RX4 RX0 45 yX0_keepIfDone cX0_keepIfDone 2 (some .int) wsX0_keepIfDone rm_X0_keepIfDone 0 0 1 :=
  cwV 1 hts gX4_set_X0_keepIfDone rfl rfl rfl (by decide +kernel) ⟨Nat.le_of_ble_eq_true rfl, Nat.le_of_ble_eq_true rfl⟩
set_option maxHeartbeats 4000000 in
set_option maxRecDepth 100000 in
theorem c_X4_set (l : Launch) (G : va_G) (cI cC cZ cQ : ClassId) (X : List (ClassId × FieldType)) (d0 b0 sl h0 h1 p0 o z : Nat) (ho : o < 7) (hz : z ≤ 6) (f : Nat → Option Nat) (Cs : Nat → Option T6) (wg : va_W) (hRG : RGs cI f Cs 7 wg) (α : Nat → Nat) (S : T6) (x1 x2 : Int32) (nu' : Nat → Int32) (r rv ho' hs' : Int32) (hf : fX2_changeSetting S.1 x1 x2 = some (r, nu')) (hk : fX0_keepIfDone (nI o) (nI z) r = some (rv, ho', hs')) : CY l yX4_set wsX4_set rm_X4_set G (TQ cI cC cZ cQ X) [.ref d0, .int x1, .int x2] ([(d0, .inr (4, [.ref (α 0), .ref b0, .ref sl, .ref h0, .ref p0])), (h0, .inr (0, [.ref h1, .int (nI o), .int (nI z)])), (h1, qA cQ 7 f)] ++ wS cI α S ++ wg : va_W) ((po_chg cI cQ d0 b0 sl h0 h1 p0 o z Cs α S (nu', S.2.1, S.2.2.1, S.2.2.2.1, S.2.2.2.2.1, S.2.2.2.2.2) rv ho' hs')) 9 340 := by
  refine CY.of (cc := cX4_set) (maxL := 3) (ret := (some .int)) RX4 rfl (by decide) rfl (Nat.le_of_ble_eq_true rfl) ?_
  intro p e s m args below meth c A ls C hr hlocks hnm h hl
  have hx := C.hx
  have hb := C.hb
  have hl : lv_has ls 3 [(0, .ref d0), (1, .int x1), (2, .int x2)] := hl
  refine lv_aload_n hx hb dX4_set_0 rfl (lv_at hl 0 rfl) ?_
  refine r_get C h 0 3 (ci := 4) (N := 5) (Cn := RX4) (T := TX4) rfl rfl (by decide) in_X4_set_X4 lk_X4_set_26 rfl dX4_set_1 ?_
  refine lv_aload_n hx hb dX4_set_4 rfl (lv_at hl 0 rfl) ?_
  refine r_get C h 0 0 (ci := 4) (N := 5) (Cn := RX4) (T := TX4) rfl rfl (by decide) in_X4_set_X4 lk_X4_set_10 rfl dX4_set_5 ?_
  replace h : Hx s G A ([(d0, .inr (4, [.ref (α 0), .ref b0, .ref sl, .ref h0, .ref p0]))] ++ ([(h0, .inr (0, [.ref h1, .int (nI o), .int (nI z)])), (h1, qA cQ 7 f)] ++ wS cI α S ++ wg)) _ _ := h
  refine r_callVY (rest := []) (ci := 0) (N := 3) (Cn := RX0) (T := TX0) C h (cw_X4_set_X0_prepare_37 C.hts) (c_X0_prepare l G cI cC cZ cQ X h0 h1 o z ho hz f Cs wg hRG α S) rfl (List.mem_append_right _ List.mem_cons_self) rfl hl.1 rfl (Nat.le_of_ble_eq_true rfl) ⟨(Nat.le_of_ble_eq_true rfl), (Nat.le_of_ble_eq_true rfl)⟩ dX4_set_8 (fun res w1 H locs hpo hn => ?_)
  clear h
  obtain ⟨rfl, f', wg', Y, hY, hg, rfl⟩ := hpo
  have h := hn
  clear hn
  replace h : Hx s G A ([(d0, .inr (4, [.ref (α 0), .ref b0, .ref sl, .ref h0, .ref p0])), (h0, .inr (0, [.ref h1, .int (nI o), .int (nI z)])), (h1, qA cQ 7 f')] ++ wS cI α S ++ wg' : va_W) _ _ := h
  refine lv_aload_n hx hb dX4_set_11 rfl (lv_at hl 0 rfl) ?_
  refine r_get C h 0 3 (ci := 4) (N := 5) (Cn := RX4) (T := TX4) rfl rfl (by decide) in_X4_set_X4 lk_X4_set_26 rfl dX4_set_12 ?_
  refine lv_aload_n hx hb dX4_set_15 rfl (lv_at hl 0 rfl) ?_
  refine r_get C h 0 0 (ci := 4) (N := 5) (Cn := RX4) (T := TX4) rfl rfl (by decide) in_X4_set_X4 lk_X4_set_10 rfl dX4_set_16 ?_
  refine lv_iload_n hx hb dX4_set_19 rfl (lv_at hl 1 rfl) ?_
  refine lv_iload_n hx hb dX4_set_20 rfl (lv_at hl 2 rfl) ?_
  replace h := Hx.perm (w := catW ([[(d0, .inr (4, [.ref (α 0), .ref b0, .ref sl, .ref h0, .ref p0]))], [(h0, .inr (0, [.ref h1, .int (nI o), .int (nI z)]))], [(h1, qA cQ 7 f')], wS cI α S, wg'] : List va_W)) h (perm_2 5 ([[(d0, .inr (4, [.ref (α 0), .ref b0, .ref sl, .ref h0, .ref p0]))], [(h0, .inr (0, [.ref h1, .int (nI o), .int (nI z)]))], [(h1, qA cQ 7 f')], wS cI α S, wg'] : List va_W) [0, 1, 2, 4] [3] rfl (by decide))
  refine r_callVY (wr := catW ([[(d0, .inr (4, [.ref (α 0), .ref b0, .ref sl, .ref h0, .ref p0]))], [(h0, .inr (0, [.ref h1, .int (nI o), .int (nI z)]))], [(h1, qA cQ 7 f')], wg'] : List va_W)) (wc := catW ([wS cI α S] : List va_W)) (rest := [.ref h0]) (ci := 2) (N := 6) (Cn := RX2) (T := TX2) C h (cw_X4_set_X2_changeSetting_41 C.hts) (CT.toY (c_X2_changeSetting l G cI cC cZ ((cQ, .object RX2) :: X) (α 0) (α 1) (α 2) (α 3) (α 4) (α 5) (α 6) (α 7) (α 8) S.1 S.2.1 S.2.2.1 S.2.2.2.1 S.2.2.2.2.1 S.2.2.2.2.2 x1 x2 r nu' hf)) rfl (List.mem_append_right _ List.mem_cons_self) rfl hl.1 rfl (Nat.le_of_ble_eq_true rfl) ⟨(Nat.le_of_ble_eq_true rfl), (Nat.le_of_ble_eq_true rfl)⟩ dX4_set_21 (fun res w1 H locs hpo h => ?_)
  obtain ⟨rfl, rfl⟩ := hpo
  replace h := Hx.perm (w := catW ([[(d0, .inr (4, [.ref (α 0), .ref b0, .ref sl, .ref h0, .ref p0]))], [(h0, .inr (0, [.ref h1, .int (nI o), .int (nI z)]))], [(h1, qA cQ 7 f')], wg'] : List va_W) ++ catW ([wS cI α (nu', S.2.1, S.2.2.1, S.2.2.2.1, S.2.2.2.2.1, S.2.2.2.2.2)] : List va_W)) h (perm_2 5 ([[(d0, .inr (4, [.ref (α 0), .ref b0, .ref sl, .ref h0, .ref p0]))], [(h0, .inr (0, [.ref h1, .int (nI o), .int (nI z)]))], [(h1, qA cQ 7 f')], wS cI α (nu', S.2.1, S.2.2.1, S.2.2.2.1, S.2.2.2.2.1, S.2.2.2.2.2), wg'] : List va_W) [0, 1, 2, 4] [3] rfl (by decide)).symm
  replace h : Hx s G A ([(d0, .inr (4, [.ref (α 0), .ref b0, .ref sl, .ref h0, .ref p0])), (h0, .inr (0, [.ref h1, .int (nI o), .int (nI z)])), (h1, qA cQ 7 f')] ++ wS cI α (nu', S.2.1, S.2.2.1, S.2.2.2.1, S.2.2.2.2.1, S.2.2.2.2.2) ++ wg' : va_W) _ _ := h
  replace h := Hx.perm (w := catW ([[(d0, .inr (4, [.ref (α 0), .ref b0, .ref sl, .ref h0, .ref p0]))], [(h0, .inr (0, [.ref h1, .int (nI o), .int (nI z)]))], [(h1, qA cQ 7 f')], wS cI α (nu', S.2.1, S.2.2.1, S.2.2.2.1, S.2.2.2.2.1, S.2.2.2.2.2), wg'] : List va_W)) h (perm_2 5 ([[(d0, .inr (4, [.ref (α 0), .ref b0, .ref sl, .ref h0, .ref p0]))], [(h0, .inr (0, [.ref h1, .int (nI o), .int (nI z)]))], [(h1, qA cQ 7 f')], wS cI α (nu', S.2.1, S.2.2.1, S.2.2.2.1, S.2.2.2.2.1, S.2.2.2.2.2), wg'] : List va_W) [0, 2, 3, 4] [1] rfl (by decide))
  refine r_callVY (wr := catW ([[(d0, .inr (4, [.ref (α 0), .ref b0, .ref sl, .ref h0, .ref p0]))], [(h1, qA cQ 7 f')], wS cI α (nu', S.2.1, S.2.2.1, S.2.2.2.1, S.2.2.2.2.1, S.2.2.2.2.2), wg'] : List va_W)) (wc := catW ([[(h0, .inr (0, [.ref h1, .int (nI o), .int (nI z)]))]] : List va_W)) (rest := []) (ci := 0) (N := 3) (Cn := RX0) (T := TX0) C h (cw_X4_set_X0_keepIfDone_45 C.hts) (CT.toY (c_X0_keepIfDone l G cI cC cZ ((cQ, .object RX2) :: X) h0 h1 (nI o) (nI z) r rv ho' hs' hk)) rfl (List.mem_append_right _ List.mem_cons_self) rfl hl.1 rfl (Nat.le_of_ble_eq_true rfl) ⟨(Nat.le_of_ble_eq_true rfl), (Nat.le_of_ble_eq_true rfl)⟩ dX4_set_24 (fun res w1 H locs hpo h => ?_)
  obtain ⟨rfl, rfl⟩ := hpo
  replace h := Hx.perm (w := catW ([[(d0, .inr (4, [.ref (α 0), .ref b0, .ref sl, .ref h0, .ref p0]))], [(h1, qA cQ 7 f')], wS cI α (nu', S.2.1, S.2.2.1, S.2.2.2.1, S.2.2.2.2.1, S.2.2.2.2.2), wg'] : List va_W) ++ catW ([[(h0, .inr (0, [.ref h1, .int ho', .int hs']))]] : List va_W)) h (perm_2 5 ([[(d0, .inr (4, [.ref (α 0), .ref b0, .ref sl, .ref h0, .ref p0]))], [(h0, .inr (0, [.ref h1, .int ho', .int hs']))], [(h1, qA cQ 7 f')], wS cI α (nu', S.2.1, S.2.2.1, S.2.2.2.1, S.2.2.2.2.1, S.2.2.2.2.2), wg'] : List va_W) [0, 2, 3, 4] [1] rfl (by decide)).symm
  replace h : Hx s G A ([(d0, .inr (4, [.ref (α 0), .ref b0, .ref sl, .ref h0, .ref p0])), (h0, .inr (0, [.ref h1, .int ho', .int hs'])), (h1, qA cQ 7 f')] ++ wS cI α (nu', S.2.1, S.2.2.1, S.2.2.2.1, S.2.2.2.2.1, S.2.2.2.2.2) ++ wg' : va_W) _ _ := h
  exact y_iret C h ⟨rfl, f', wg', Y, hY, hg, rfl⟩ hr hlocks dX4_set_27
def rm_X4_value : Room := { frames := 5, cells := 9, slots := 340, locals := 103 }
set_option maxRecDepth 20000 in
theorem lk_X4_value_26 : Cond.fieldLink RX4 26 "LineDoubler" "history" "LLineDoubler$History;" ∈ wsX4_value := List.mem_of_getElem? (i := 1) (by decide +kernel)
set_option maxRecDepth 20000 in
theorem lk_X4_value_10 : Cond.fieldLink RX4 10 "LineDoubler" "state" "LLineDoubler$State;" ∈ wsX4_value := List.mem_of_getElem? (i := 2) (by decide +kernel)
set_option maxRecDepth 20000 in
theorem in_X4_value_X4 : ∀ x ∈ wsX40, x ∈ wsX4_value := mem_r _ [69, 70, 71, 72, 73] (by decide +kernel)
set_option maxRecDepth 20000 in
theorem cw_X4_value_X0_prepare_37 {s : State} {args : Array Value} (hts : ∀ w ∈ wsX4_value, w.before args s = true) : CallW rm_X4_value s args RX4 RX0 37 yX0_prepare cX0_prepare 2 none wsX0_prepare rm_X0_prepare 9 340 1 :=
  cwV 1 hts gX4_value_X0_prepare rfl rfl rfl (by decide +kernel) ⟨Nat.le_of_ble_eq_true rfl, Nat.le_of_ble_eq_true rfl⟩
set_option maxRecDepth 20000 in
theorem cw_X4_value_X2_changeValue_49 {s : State} {args : Array Value} (hts : ∀ w ∈ wsX4_value, w.before args s = true) : CallW rm_X4_value s args RX4 RX2 49 yX2_changeValue cX2_changeValue 4 (some .int) wsX2_changeValue rm_X2_changeValue 0 0 2 :=
  cwV 2 hts gX4_value_X2_changeValue rfl rfl rfl (by decide +kernel) ⟨Nat.le_of_ble_eq_true rfl, Nat.le_of_ble_eq_true rfl⟩
set_option maxRecDepth 20000 in
theorem cw_X4_value_X0_keepIfDone_45 {s : State} {args : Array Value} (hts : ∀ w ∈ wsX4_value, w.before args s = true) : CallW rm_X4_value s args RX4 RX0 45 yX0_keepIfDone cX0_keepIfDone 2 (some .int) wsX0_keepIfDone rm_X0_keepIfDone 0 0 1 :=
  cwV 1 hts gX4_value_X0_keepIfDone rfl rfl rfl (by decide +kernel) ⟨Nat.le_of_ble_eq_true rfl, Nat.le_of_ble_eq_true rfl⟩
set_option maxHeartbeats 4000000 in
set_option maxRecDepth 100000 in
theorem c_X4_value (l : Launch) (G : va_G) (cI cC cZ cQ : ClassId) (X : List (ClassId × FieldType)) (d0 b0 sl h0 h1 p0 o z : Nat) (ho : o < 7) (hz : z ≤ 6) (f : Nat → Option Nat) (Cs : Nat → Option T6) (wg : va_W) (hRG : RGs cI f Cs 7 wg) (α : Nat → Nat) (S : T6) (x1 x2 : Int32) (va' : Nat → Int32) (r rv ho' hs' : Int32) (hf : fX2_changeValue S.2.1 x1 x2 = some (r, va')) (hk : fX0_keepIfDone (nI o) (nI z) r = some (rv, ho', hs')) : CY l yX4_value wsX4_value rm_X4_value G (TQ cI cC cZ cQ X) [.ref d0, .int x1, .int x2] ([(d0, .inr (4, [.ref (α 0), .ref b0, .ref sl, .ref h0, .ref p0])), (h0, .inr (0, [.ref h1, .int (nI o), .int (nI z)])), (h1, qA cQ 7 f)] ++ wS cI α S ++ wg : va_W) ((po_chg cI cQ d0 b0 sl h0 h1 p0 o z Cs α S (S.1, va', S.2.2.1, S.2.2.2.1, S.2.2.2.2.1, S.2.2.2.2.2) rv ho' hs')) 9 340 := by
  refine CY.of (cc := cX4_value) (maxL := 3) (ret := (some .int)) RX4 rfl (by decide) rfl (Nat.le_of_ble_eq_true rfl) ?_
  intro p e s m args below meth c A ls C hr hlocks hnm h hl
  have hx := C.hx
  have hb := C.hb
  have hl : lv_has ls 3 [(0, .ref d0), (1, .int x1), (2, .int x2)] := hl
  refine lv_aload_n hx hb dX4_value_0 rfl (lv_at hl 0 rfl) ?_
  refine r_get C h 0 3 (ci := 4) (N := 5) (Cn := RX4) (T := TX4) rfl rfl (by decide) in_X4_value_X4 lk_X4_value_26 rfl dX4_value_1 ?_
  refine lv_aload_n hx hb dX4_value_4 rfl (lv_at hl 0 rfl) ?_
  refine r_get C h 0 0 (ci := 4) (N := 5) (Cn := RX4) (T := TX4) rfl rfl (by decide) in_X4_value_X4 lk_X4_value_10 rfl dX4_value_5 ?_
  replace h : Hx s G A ([(d0, .inr (4, [.ref (α 0), .ref b0, .ref sl, .ref h0, .ref p0]))] ++ ([(h0, .inr (0, [.ref h1, .int (nI o), .int (nI z)])), (h1, qA cQ 7 f)] ++ wS cI α S ++ wg)) _ _ := h
  refine r_callVY (rest := []) (ci := 0) (N := 3) (Cn := RX0) (T := TX0) C h (cw_X4_value_X0_prepare_37 C.hts) (c_X0_prepare l G cI cC cZ cQ X h0 h1 o z ho hz f Cs wg hRG α S) rfl (List.mem_append_right _ List.mem_cons_self) rfl hl.1 rfl (Nat.le_of_ble_eq_true rfl) ⟨(Nat.le_of_ble_eq_true rfl), (Nat.le_of_ble_eq_true rfl)⟩ dX4_value_8 (fun res w1 H locs hpo hn => ?_)
  clear h
  obtain ⟨rfl, f', wg', Y, hY, hg, rfl⟩ := hpo
  have h := hn
  clear hn
  replace h : Hx s G A ([(d0, .inr (4, [.ref (α 0), .ref b0, .ref sl, .ref h0, .ref p0])), (h0, .inr (0, [.ref h1, .int (nI o), .int (nI z)])), (h1, qA cQ 7 f')] ++ wS cI α S ++ wg' : va_W) _ _ := h
  refine lv_aload_n hx hb dX4_value_11 rfl (lv_at hl 0 rfl) ?_
  refine r_get C h 0 3 (ci := 4) (N := 5) (Cn := RX4) (T := TX4) rfl rfl (by decide) in_X4_value_X4 lk_X4_value_26 rfl dX4_value_12 ?_
  refine lv_aload_n hx hb dX4_value_15 rfl (lv_at hl 0 rfl) ?_
  refine r_get C h 0 0 (ci := 4) (N := 5) (Cn := RX4) (T := TX4) rfl rfl (by decide) in_X4_value_X4 lk_X4_value_10 rfl dX4_value_16 ?_
  refine lv_iload_n hx hb dX4_value_19 rfl (lv_at hl 1 rfl) ?_
  refine lv_iload_n hx hb dX4_value_20 rfl (lv_at hl 2 rfl) ?_
  replace h := Hx.perm (w := catW ([[(d0, .inr (4, [.ref (α 0), .ref b0, .ref sl, .ref h0, .ref p0]))], [(h0, .inr (0, [.ref h1, .int (nI o), .int (nI z)]))], [(h1, qA cQ 7 f')], wS cI α S, wg'] : List va_W)) h (perm_2 5 ([[(d0, .inr (4, [.ref (α 0), .ref b0, .ref sl, .ref h0, .ref p0]))], [(h0, .inr (0, [.ref h1, .int (nI o), .int (nI z)]))], [(h1, qA cQ 7 f')], wS cI α S, wg'] : List va_W) [0, 1, 2, 4] [3] rfl (by decide))
  refine r_callVY (wr := catW ([[(d0, .inr (4, [.ref (α 0), .ref b0, .ref sl, .ref h0, .ref p0]))], [(h0, .inr (0, [.ref h1, .int (nI o), .int (nI z)]))], [(h1, qA cQ 7 f')], wg'] : List va_W)) (wc := catW ([wS cI α S] : List va_W)) (rest := [.ref h0]) (ci := 2) (N := 6) (Cn := RX2) (T := TX2) C h (cw_X4_value_X2_changeValue_49 C.hts) (CT.toY (c_X2_changeValue l G cI cC cZ ((cQ, .object RX2) :: X) (α 0) (α 1) (α 2) (α 3) (α 4) (α 5) (α 6) (α 7) (α 8) S.1 S.2.1 S.2.2.1 S.2.2.2.1 S.2.2.2.2.1 S.2.2.2.2.2 x1 x2 r va' hf)) rfl (List.mem_append_right _ List.mem_cons_self) rfl hl.1 rfl (Nat.le_of_ble_eq_true rfl) ⟨(Nat.le_of_ble_eq_true rfl), (Nat.le_of_ble_eq_true rfl)⟩ dX4_value_21 (fun res w1 H locs hpo h => ?_)
  obtain ⟨rfl, rfl⟩ := hpo
  replace h := Hx.perm (w := catW ([[(d0, .inr (4, [.ref (α 0), .ref b0, .ref sl, .ref h0, .ref p0]))], [(h0, .inr (0, [.ref h1, .int (nI o), .int (nI z)]))], [(h1, qA cQ 7 f')], wg'] : List va_W) ++ catW ([wS cI α (S.1, va', S.2.2.1, S.2.2.2.1, S.2.2.2.2.1, S.2.2.2.2.2)] : List va_W)) h (perm_2 5 ([[(d0, .inr (4, [.ref (α 0), .ref b0, .ref sl, .ref h0, .ref p0]))], [(h0, .inr (0, [.ref h1, .int (nI o), .int (nI z)]))], [(h1, qA cQ 7 f')], wS cI α (S.1, va', S.2.2.1, S.2.2.2.1, S.2.2.2.2.1, S.2.2.2.2.2), wg'] : List va_W) [0, 1, 2, 4] [3] rfl (by decide)).symm
  replace h : Hx s G A ([(d0, .inr (4, [.ref (α 0), .ref b0, .ref sl, .ref h0, .ref p0])), (h0, .inr (0, [.ref h1, .int (nI o), .int (nI z)])), (h1, qA cQ 7 f')] ++ wS cI α (S.1, va', S.2.2.1, S.2.2.2.1, S.2.2.2.2.1, S.2.2.2.2.2) ++ wg' : va_W) _ _ := h
  replace h := Hx.perm (w := catW ([[(d0, .inr (4, [.ref (α 0), .ref b0, .ref sl, .ref h0, .ref p0]))], [(h0, .inr (0, [.ref h1, .int (nI o), .int (nI z)]))], [(h1, qA cQ 7 f')], wS cI α (S.1, va', S.2.2.1, S.2.2.2.1, S.2.2.2.2.1, S.2.2.2.2.2), wg'] : List va_W)) h (perm_2 5 ([[(d0, .inr (4, [.ref (α 0), .ref b0, .ref sl, .ref h0, .ref p0]))], [(h0, .inr (0, [.ref h1, .int (nI o), .int (nI z)]))], [(h1, qA cQ 7 f')], wS cI α (S.1, va', S.2.2.1, S.2.2.2.1, S.2.2.2.2.1, S.2.2.2.2.2), wg'] : List va_W) [0, 2, 3, 4] [1] rfl (by decide))
  refine r_callVY (wr := catW ([[(d0, .inr (4, [.ref (α 0), .ref b0, .ref sl, .ref h0, .ref p0]))], [(h1, qA cQ 7 f')], wS cI α (S.1, va', S.2.2.1, S.2.2.2.1, S.2.2.2.2.1, S.2.2.2.2.2), wg'] : List va_W)) (wc := catW ([[(h0, .inr (0, [.ref h1, .int (nI o), .int (nI z)]))]] : List va_W)) (rest := []) (ci := 0) (N := 3) (Cn := RX0) (T := TX0) C h (cw_X4_value_X0_keepIfDone_45 C.hts) (CT.toY (c_X0_keepIfDone l G cI cC cZ ((cQ, .object RX2) :: X) h0 h1 (nI o) (nI z) r rv ho' hs' hk)) rfl (List.mem_append_right _ List.mem_cons_self) rfl hl.1 rfl (Nat.le_of_ble_eq_true rfl) ⟨(Nat.le_of_ble_eq_true rfl), (Nat.le_of_ble_eq_true rfl)⟩ dX4_value_24 (fun res w1 H locs hpo h => ?_)
  obtain ⟨rfl, rfl⟩ := hpo
  replace h := Hx.perm (w := catW ([[(d0, .inr (4, [.ref (α 0), .ref b0, .ref sl, .ref h0, .ref p0]))], [(h1, qA cQ 7 f')], wS cI α (S.1, va', S.2.2.1, S.2.2.2.1, S.2.2.2.2.1, S.2.2.2.2.2), wg'] : List va_W) ++ catW ([[(h0, .inr (0, [.ref h1, .int ho', .int hs']))]] : List va_W)) h (perm_2 5 ([[(d0, .inr (4, [.ref (α 0), .ref b0, .ref sl, .ref h0, .ref p0]))], [(h0, .inr (0, [.ref h1, .int ho', .int hs']))], [(h1, qA cQ 7 f')], wS cI α (S.1, va', S.2.2.1, S.2.2.2.1, S.2.2.2.2.1, S.2.2.2.2.2), wg'] : List va_W) [0, 2, 3, 4] [1] rfl (by decide)).symm
  replace h : Hx s G A ([(d0, .inr (4, [.ref (α 0), .ref b0, .ref sl, .ref h0, .ref p0])), (h0, .inr (0, [.ref h1, .int ho', .int hs'])), (h1, qA cQ 7 f')] ++ wS cI α (S.1, va', S.2.2.1, S.2.2.2.1, S.2.2.2.2.1, S.2.2.2.2.2) ++ wg' : va_W) _ _ := h
  exact y_iret C h ⟨rfl, f', wg', Y, hY, hg, rfl⟩ hr hlocks dX4_value_27
def rm_X4_slip : Room := { frames := 5, cells := 9, slots := 340, locals := 103 }
set_option maxRecDepth 20000 in
theorem lk_X4_slip_26 : Cond.fieldLink RX4 26 "LineDoubler" "history" "LLineDoubler$History;" ∈ wsX4_slip := List.mem_of_getElem? (i := 1) (by decide +kernel)
set_option maxRecDepth 20000 in
theorem lk_X4_slip_10 : Cond.fieldLink RX4 10 "LineDoubler" "state" "LLineDoubler$State;" ∈ wsX4_slip := List.mem_of_getElem? (i := 2) (by decide +kernel)
set_option maxRecDepth 20000 in
theorem in_X4_slip_X4 : ∀ x ∈ wsX40, x ∈ wsX4_slip := mem_r _ [69, 70, 71, 72, 73] (by decide +kernel)
set_option maxRecDepth 20000 in
theorem cw_X4_slip_X0_prepare_37 {s : State} {args : Array Value} (hts : ∀ w ∈ wsX4_slip, w.before args s = true) : CallW rm_X4_slip s args RX4 RX0 37 yX0_prepare cX0_prepare 2 none wsX0_prepare rm_X0_prepare 9 340 1 :=
  cwV 1 hts gX4_slip_X0_prepare rfl rfl rfl (by decide +kernel) ⟨Nat.le_of_ble_eq_true rfl, Nat.le_of_ble_eq_true rfl⟩
set_option maxRecDepth 20000 in
theorem cw_X4_slip_X2_delayClock_52 {s : State} {args : Array Value} (hts : ∀ w ∈ wsX4_slip, w.before args s = true) : CallW rm_X4_slip s args RX4 RX2 52 yX2_delayClock cX2_delayClock 4 (some .int) wsX2_delayClock rm_X2_delayClock 0 0 2 :=
  cwV 2 hts gX4_slip_X2_delayClock rfl rfl rfl (by decide +kernel) ⟨Nat.le_of_ble_eq_true rfl, Nat.le_of_ble_eq_true rfl⟩
set_option maxRecDepth 20000 in
theorem cw_X4_slip_X0_keepIfDone_45 {s : State} {args : Array Value} (hts : ∀ w ∈ wsX4_slip, w.before args s = true) : CallW rm_X4_slip s args RX4 RX0 45 yX0_keepIfDone cX0_keepIfDone 2 (some .int) wsX0_keepIfDone rm_X0_keepIfDone 0 0 1 :=
  cwV 1 hts gX4_slip_X0_keepIfDone rfl rfl rfl (by decide +kernel) ⟨Nat.le_of_ble_eq_true rfl, Nat.le_of_ble_eq_true rfl⟩
set_option maxHeartbeats 4000000 in
set_option maxRecDepth 100000 in
theorem c_X4_slip (l : Launch) (G : va_G) (cI cC cZ cQ : ClassId) (X : List (ClassId × FieldType)) (d0 b0 sl h0 h1 p0 o z : Nat) (ho : o < 7) (hz : z ≤ 6) (f : Nat → Option Nat) (Cs : Nat → Option T6) (wg : va_W) (hRG : RGs cI f Cs 7 wg) (α : Nat → Nat) (S : T6) (x1 x2 : Int32) (nu' : Nat → Int32) (r rv ho' hs' : Int32) (hf : fX2_delayClock S.1 x1 x2 = some (r, nu')) (hk : fX0_keepIfDone (nI o) (nI z) r = some (rv, ho', hs')) : CY l yX4_slip wsX4_slip rm_X4_slip G (TQ cI cC cZ cQ X) [.ref d0, .int x1, .int x2] ([(d0, .inr (4, [.ref (α 0), .ref b0, .ref sl, .ref h0, .ref p0])), (h0, .inr (0, [.ref h1, .int (nI o), .int (nI z)])), (h1, qA cQ 7 f)] ++ wS cI α S ++ wg : va_W) ((po_chg cI cQ d0 b0 sl h0 h1 p0 o z Cs α S (nu', S.2.1, S.2.2.1, S.2.2.2.1, S.2.2.2.2.1, S.2.2.2.2.2) rv ho' hs')) 9 340 := by
  refine CY.of (cc := cX4_slip) (maxL := 3) (ret := (some .int)) RX4 rfl (by decide) rfl (Nat.le_of_ble_eq_true rfl) ?_
  intro p e s m args below meth c A ls C hr hlocks hnm h hl
  have hx := C.hx
  have hb := C.hb
  have hl : lv_has ls 3 [(0, .ref d0), (1, .int x1), (2, .int x2)] := hl
  refine lv_aload_n hx hb dX4_slip_0 rfl (lv_at hl 0 rfl) ?_
  refine r_get C h 0 3 (ci := 4) (N := 5) (Cn := RX4) (T := TX4) rfl rfl (by decide) in_X4_slip_X4 lk_X4_slip_26 rfl dX4_slip_1 ?_
  refine lv_aload_n hx hb dX4_slip_4 rfl (lv_at hl 0 rfl) ?_
  refine r_get C h 0 0 (ci := 4) (N := 5) (Cn := RX4) (T := TX4) rfl rfl (by decide) in_X4_slip_X4 lk_X4_slip_10 rfl dX4_slip_5 ?_
  replace h : Hx s G A ([(d0, .inr (4, [.ref (α 0), .ref b0, .ref sl, .ref h0, .ref p0]))] ++ ([(h0, .inr (0, [.ref h1, .int (nI o), .int (nI z)])), (h1, qA cQ 7 f)] ++ wS cI α S ++ wg)) _ _ := h
  refine r_callVY (rest := []) (ci := 0) (N := 3) (Cn := RX0) (T := TX0) C h (cw_X4_slip_X0_prepare_37 C.hts) (c_X0_prepare l G cI cC cZ cQ X h0 h1 o z ho hz f Cs wg hRG α S) rfl (List.mem_append_right _ List.mem_cons_self) rfl hl.1 rfl (Nat.le_of_ble_eq_true rfl) ⟨(Nat.le_of_ble_eq_true rfl), (Nat.le_of_ble_eq_true rfl)⟩ dX4_slip_8 (fun res w1 H locs hpo hn => ?_)
  clear h
  obtain ⟨rfl, f', wg', Y, hY, hg, rfl⟩ := hpo
  have h := hn
  clear hn
  replace h : Hx s G A ([(d0, .inr (4, [.ref (α 0), .ref b0, .ref sl, .ref h0, .ref p0])), (h0, .inr (0, [.ref h1, .int (nI o), .int (nI z)])), (h1, qA cQ 7 f')] ++ wS cI α S ++ wg' : va_W) _ _ := h
  refine lv_aload_n hx hb dX4_slip_11 rfl (lv_at hl 0 rfl) ?_
  refine r_get C h 0 3 (ci := 4) (N := 5) (Cn := RX4) (T := TX4) rfl rfl (by decide) in_X4_slip_X4 lk_X4_slip_26 rfl dX4_slip_12 ?_
  refine lv_aload_n hx hb dX4_slip_15 rfl (lv_at hl 0 rfl) ?_
  refine r_get C h 0 0 (ci := 4) (N := 5) (Cn := RX4) (T := TX4) rfl rfl (by decide) in_X4_slip_X4 lk_X4_slip_10 rfl dX4_slip_16 ?_
  refine lv_iload_n hx hb dX4_slip_19 rfl (lv_at hl 1 rfl) ?_
  refine lv_iload_n hx hb dX4_slip_20 rfl (lv_at hl 2 rfl) ?_
  replace h := Hx.perm (w := catW ([[(d0, .inr (4, [.ref (α 0), .ref b0, .ref sl, .ref h0, .ref p0]))], [(h0, .inr (0, [.ref h1, .int (nI o), .int (nI z)]))], [(h1, qA cQ 7 f')], wS cI α S, wg'] : List va_W)) h (perm_2 5 ([[(d0, .inr (4, [.ref (α 0), .ref b0, .ref sl, .ref h0, .ref p0]))], [(h0, .inr (0, [.ref h1, .int (nI o), .int (nI z)]))], [(h1, qA cQ 7 f')], wS cI α S, wg'] : List va_W) [0, 1, 2, 4] [3] rfl (by decide))
  refine r_callVY (wr := catW ([[(d0, .inr (4, [.ref (α 0), .ref b0, .ref sl, .ref h0, .ref p0]))], [(h0, .inr (0, [.ref h1, .int (nI o), .int (nI z)]))], [(h1, qA cQ 7 f')], wg'] : List va_W)) (wc := catW ([wS cI α S] : List va_W)) (rest := [.ref h0]) (ci := 2) (N := 6) (Cn := RX2) (T := TX2) C h (cw_X4_slip_X2_delayClock_52 C.hts) (CT.toY (c_X2_delayClock l G cI cC cZ ((cQ, .object RX2) :: X) (α 0) (α 1) (α 2) (α 3) (α 4) (α 5) (α 6) (α 7) (α 8) S.1 S.2.1 S.2.2.1 S.2.2.2.1 S.2.2.2.2.1 S.2.2.2.2.2 x1 x2 r nu' hf)) rfl (List.mem_append_right _ List.mem_cons_self) rfl hl.1 rfl (Nat.le_of_ble_eq_true rfl) ⟨(Nat.le_of_ble_eq_true rfl), (Nat.le_of_ble_eq_true rfl)⟩ dX4_slip_21 (fun res w1 H locs hpo h => ?_)
  obtain ⟨rfl, rfl⟩ := hpo
  replace h := Hx.perm (w := catW ([[(d0, .inr (4, [.ref (α 0), .ref b0, .ref sl, .ref h0, .ref p0]))], [(h0, .inr (0, [.ref h1, .int (nI o), .int (nI z)]))], [(h1, qA cQ 7 f')], wg'] : List va_W) ++ catW ([wS cI α (nu', S.2.1, S.2.2.1, S.2.2.2.1, S.2.2.2.2.1, S.2.2.2.2.2)] : List va_W)) h (perm_2 5 ([[(d0, .inr (4, [.ref (α 0), .ref b0, .ref sl, .ref h0, .ref p0]))], [(h0, .inr (0, [.ref h1, .int (nI o), .int (nI z)]))], [(h1, qA cQ 7 f')], wS cI α (nu', S.2.1, S.2.2.1, S.2.2.2.1, S.2.2.2.2.1, S.2.2.2.2.2), wg'] : List va_W) [0, 1, 2, 4] [3] rfl (by decide)).symm
  replace h : Hx s G A ([(d0, .inr (4, [.ref (α 0), .ref b0, .ref sl, .ref h0, .ref p0])), (h0, .inr (0, [.ref h1, .int (nI o), .int (nI z)])), (h1, qA cQ 7 f')] ++ wS cI α (nu', S.2.1, S.2.2.1, S.2.2.2.1, S.2.2.2.2.1, S.2.2.2.2.2) ++ wg' : va_W) _ _ := h
  replace h := Hx.perm (w := catW ([[(d0, .inr (4, [.ref (α 0), .ref b0, .ref sl, .ref h0, .ref p0]))], [(h0, .inr (0, [.ref h1, .int (nI o), .int (nI z)]))], [(h1, qA cQ 7 f')], wS cI α (nu', S.2.1, S.2.2.1, S.2.2.2.1, S.2.2.2.2.1, S.2.2.2.2.2), wg'] : List va_W)) h (perm_2 5 ([[(d0, .inr (4, [.ref (α 0), .ref b0, .ref sl, .ref h0, .ref p0]))], [(h0, .inr (0, [.ref h1, .int (nI o), .int (nI z)]))], [(h1, qA cQ 7 f')], wS cI α (nu', S.2.1, S.2.2.1, S.2.2.2.1, S.2.2.2.2.1, S.2.2.2.2.2), wg'] : List va_W) [0, 2, 3, 4] [1] rfl (by decide))
  refine r_callVY (wr := catW ([[(d0, .inr (4, [.ref (α 0), .ref b0, .ref sl, .ref h0, .ref p0]))], [(h1, qA cQ 7 f')], wS cI α (nu', S.2.1, S.2.2.1, S.2.2.2.1, S.2.2.2.2.1, S.2.2.2.2.2), wg'] : List va_W)) (wc := catW ([[(h0, .inr (0, [.ref h1, .int (nI o), .int (nI z)]))]] : List va_W)) (rest := []) (ci := 0) (N := 3) (Cn := RX0) (T := TX0) C h (cw_X4_slip_X0_keepIfDone_45 C.hts) (CT.toY (c_X0_keepIfDone l G cI cC cZ ((cQ, .object RX2) :: X) h0 h1 (nI o) (nI z) r rv ho' hs' hk)) rfl (List.mem_append_right _ List.mem_cons_self) rfl hl.1 rfl (Nat.le_of_ble_eq_true rfl) ⟨(Nat.le_of_ble_eq_true rfl), (Nat.le_of_ble_eq_true rfl)⟩ dX4_slip_24 (fun res w1 H locs hpo h => ?_)
  obtain ⟨rfl, rfl⟩ := hpo
  replace h := Hx.perm (w := catW ([[(d0, .inr (4, [.ref (α 0), .ref b0, .ref sl, .ref h0, .ref p0]))], [(h1, qA cQ 7 f')], wS cI α (nu', S.2.1, S.2.2.1, S.2.2.2.1, S.2.2.2.2.1, S.2.2.2.2.2), wg'] : List va_W) ++ catW ([[(h0, .inr (0, [.ref h1, .int ho', .int hs']))]] : List va_W)) h (perm_2 5 ([[(d0, .inr (4, [.ref (α 0), .ref b0, .ref sl, .ref h0, .ref p0]))], [(h0, .inr (0, [.ref h1, .int ho', .int hs']))], [(h1, qA cQ 7 f')], wS cI α (nu', S.2.1, S.2.2.1, S.2.2.2.1, S.2.2.2.2.1, S.2.2.2.2.2), wg'] : List va_W) [0, 2, 3, 4] [1] rfl (by decide)).symm
  replace h : Hx s G A ([(d0, .inr (4, [.ref (α 0), .ref b0, .ref sl, .ref h0, .ref p0])), (h0, .inr (0, [.ref h1, .int ho', .int hs'])), (h1, qA cQ 7 f')] ++ wS cI α (nu', S.2.1, S.2.2.1, S.2.2.2.1, S.2.2.2.2.1, S.2.2.2.2.2) ++ wg' : va_W) _ _ := h
  exact y_iret C h ⟨rfl, f', wg', Y, hY, hg, rfl⟩ hr hlocks dX4_slip_27
def rm_X4_pass : Room := { frames := 6, cells := 9, slots := 340, locals := 134 }
set_option maxRecDepth 20000 in
theorem lk_X4_pass_26 : Cond.fieldLink RX4 26 "LineDoubler" "history" "LLineDoubler$History;" ∈ wsX4_pass := List.mem_of_getElem? (i := 1) (by decide +kernel)
set_option maxRecDepth 20000 in
theorem lk_X4_pass_10 : Cond.fieldLink RX4 10 "LineDoubler" "state" "LLineDoubler$State;" ∈ wsX4_pass := List.mem_of_getElem? (i := 2) (by decide +kernel)
set_option maxRecDepth 20000 in
theorem kc_X4_pass_55 : Cond.constant RX4 55 (99999) ∈ wsX4_pass := List.mem_of_getElem? (i := 3) (by decide +kernel)
set_option maxRecDepth 20000 in
theorem in_X4_pass_X4 : ∀ x ∈ wsX40, x ∈ wsX4_pass := mem_r _ [128, 129, 130, 131, 132] (by decide +kernel)
set_option maxRecDepth 20000 in
theorem cw_X4_pass_X0_prepare_37 {s : State} {args : Array Value} (hts : ∀ w ∈ wsX4_pass, w.before args s = true) : CallW rm_X4_pass s args RX4 RX0 37 yX0_prepare cX0_prepare 2 none wsX0_prepare rm_X0_prepare 9 340 1 :=
  cwV 1 hts gX4_pass_X0_prepare rfl rfl rfl (by decide +kernel) ⟨Nat.le_of_ble_eq_true rfl, Nat.le_of_ble_eq_true rfl⟩
set_option maxRecDepth 20000 in
theorem cw_X4_pass_X2_passTicks_56 {s : State} {args : Array Value} (hts : ∀ w ∈ wsX4_pass, w.before args s = true) : CallW rm_X4_pass s args RX4 RX2 56 yX2_passTicks cX2_passTicks 6 (some .int) wsX2_passTicks rm_X2_passTicks 0 0 2 :=
  cwV 2 hts gX4_pass_X2_passTicks rfl rfl rfl (by decide +kernel) ⟨Nat.le_of_ble_eq_true rfl, Nat.le_of_ble_eq_true rfl⟩
set_option maxRecDepth 20000 in
theorem cw_X4_pass_X0_keepIfDone_45 {s : State} {args : Array Value} (hts : ∀ w ∈ wsX4_pass, w.before args s = true) : CallW rm_X4_pass s args RX4 RX0 45 yX0_keepIfDone cX0_keepIfDone 2 (some .int) wsX0_keepIfDone rm_X0_keepIfDone 0 0 1 :=
  cwV 1 hts gX4_pass_X0_keepIfDone rfl rfl rfl (by decide +kernel) ⟨Nat.le_of_ble_eq_true rfl, Nat.le_of_ble_eq_true rfl⟩
set_option maxHeartbeats 4000000 in
set_option maxRecDepth 100000 in
theorem c_X4_pass (l : Launch) (G : va_G) (cI cC cZ cQ : ClassId) (X : List (ClassId × FieldType)) (d0 b0 sl h0 h1 p0 o z : Nat) (ho : o < 7) (hz : z ≤ 6) (f : Nat → Option Nat) (Cs : Nat → Option T6) (wg : va_W) (hRG : RGs cI f Cs 7 wg) (α : Nat → Nat) (S : T6) (x1 : Int32) (nu' : Nat → Int32) (qu' : Nat → Int32) (sc' : Nat → Int32) (lo' : Nat → Int32) (wt' : Int32) (r rv ho' hs' : Int32) (hf : fX2_passTicks S.1 S.2.1 S.2.2.1 S.2.2.2.1 S.2.2.2.2.1 S.2.2.2.2.2 x1 99999 = some (r, nu', qu', sc', lo', wt')) (hk : fX0_keepIfDone (nI o) (nI z) r = some (rv, ho', hs')) : CY l yX4_pass wsX4_pass rm_X4_pass G (TQ cI cC cZ cQ X) [.ref d0, .int x1] ([(d0, .inr (4, [.ref (α 0), .ref b0, .ref sl, .ref h0, .ref p0])), (h0, .inr (0, [.ref h1, .int (nI o), .int (nI z)])), (h1, qA cQ 7 f)] ++ wS cI α S ++ wg : va_W) ((po_chg cI cQ d0 b0 sl h0 h1 p0 o z Cs α S (nu', S.2.1, qu', sc', lo', wt') rv ho' hs')) 9 340 := by
  refine CY.of (cc := cX4_pass) (maxL := 2) (ret := (some .int)) RX4 rfl (by decide) rfl (Nat.le_of_ble_eq_true rfl) ?_
  intro p e s m args below meth c A ls C hr hlocks hnm h hl
  have hx := C.hx
  have hb := C.hb
  have hl : lv_has ls 2 [(0, .ref d0), (1, .int x1)] := hl
  refine lv_aload_n hx hb dX4_pass_0 rfl (lv_at hl 0 rfl) ?_
  refine r_get C h 0 3 (ci := 4) (N := 5) (Cn := RX4) (T := TX4) rfl rfl (by decide) in_X4_pass_X4 lk_X4_pass_26 rfl dX4_pass_1 ?_
  refine lv_aload_n hx hb dX4_pass_4 rfl (lv_at hl 0 rfl) ?_
  refine r_get C h 0 0 (ci := 4) (N := 5) (Cn := RX4) (T := TX4) rfl rfl (by decide) in_X4_pass_X4 lk_X4_pass_10 rfl dX4_pass_5 ?_
  replace h : Hx s G A ([(d0, .inr (4, [.ref (α 0), .ref b0, .ref sl, .ref h0, .ref p0]))] ++ ([(h0, .inr (0, [.ref h1, .int (nI o), .int (nI z)])), (h1, qA cQ 7 f)] ++ wS cI α S ++ wg)) _ _ := h
  refine r_callVY (rest := []) (ci := 0) (N := 3) (Cn := RX0) (T := TX0) C h (cw_X4_pass_X0_prepare_37 C.hts) (c_X0_prepare l G cI cC cZ cQ X h0 h1 o z ho hz f Cs wg hRG α S) rfl (List.mem_append_right _ List.mem_cons_self) rfl hl.1 rfl (Nat.le_of_ble_eq_true rfl) ⟨(Nat.le_of_ble_eq_true rfl), (Nat.le_of_ble_eq_true rfl)⟩ dX4_pass_8 (fun res w1 H locs hpo hn => ?_)
  clear h
  obtain ⟨rfl, f', wg', Y, hY, hg, rfl⟩ := hpo
  have h := hn
  clear hn
  replace h : Hx s G A ([(d0, .inr (4, [.ref (α 0), .ref b0, .ref sl, .ref h0, .ref p0])), (h0, .inr (0, [.ref h1, .int (nI o), .int (nI z)])), (h1, qA cQ 7 f')] ++ wS cI α S ++ wg' : va_W) _ _ := h
  refine lv_aload_n hx hb dX4_pass_11 rfl (lv_at hl 0 rfl) ?_
  refine r_get C h 0 3 (ci := 4) (N := 5) (Cn := RX4) (T := TX4) rfl rfl (by decide) in_X4_pass_X4 lk_X4_pass_26 rfl dX4_pass_12 ?_
  refine lv_aload_n hx hb dX4_pass_15 rfl (lv_at hl 0 rfl) ?_
  refine r_get C h 0 0 (ci := 4) (N := 5) (Cn := RX4) (T := TX4) rfl rfl (by decide) in_X4_pass_X4 lk_X4_pass_10 rfl dX4_pass_16 ?_
  refine lv_iload_n hx hb dX4_pass_19 rfl (lv_at hl 1 rfl) ?_
  refine lv_ldc hx hb C.hown (C.hts _ kc_X4_pass_55) dX4_pass_20 ?_
  replace h := Hx.perm (w := catW ([[(d0, .inr (4, [.ref (α 0), .ref b0, .ref sl, .ref h0, .ref p0]))], [(h0, .inr (0, [.ref h1, .int (nI o), .int (nI z)]))], [(h1, qA cQ 7 f')], wS cI α S, wg'] : List va_W)) h (perm_2 5 ([[(d0, .inr (4, [.ref (α 0), .ref b0, .ref sl, .ref h0, .ref p0]))], [(h0, .inr (0, [.ref h1, .int (nI o), .int (nI z)]))], [(h1, qA cQ 7 f')], wS cI α S, wg'] : List va_W) [0, 1, 2, 4] [3] rfl (by decide))
  refine r_callVY (wr := catW ([[(d0, .inr (4, [.ref (α 0), .ref b0, .ref sl, .ref h0, .ref p0]))], [(h0, .inr (0, [.ref h1, .int (nI o), .int (nI z)]))], [(h1, qA cQ 7 f')], wg'] : List va_W)) (wc := catW ([wS cI α S] : List va_W)) (rest := [.ref h0]) (ci := 2) (N := 6) (Cn := RX2) (T := TX2) C h (cw_X4_pass_X2_passTicks_56 C.hts) (CT.toY (c_X2_passTicks l G cI cC cZ ((cQ, .object RX2) :: X) (α 0) (α 1) (α 2) (α 3) (α 4) (α 5) (α 6) (α 7) (α 8) S.1 S.2.1 S.2.2.1 S.2.2.2.1 S.2.2.2.2.1 S.2.2.2.2.2 x1 99999 r nu' qu' sc' lo' wt' hf)) rfl (List.mem_append_right _ List.mem_cons_self) rfl hl.1 rfl (Nat.le_of_ble_eq_true rfl) ⟨(Nat.le_of_ble_eq_true rfl), (Nat.le_of_ble_eq_true rfl)⟩ dX4_pass_22 (fun res w1 H locs hpo h => ?_)
  obtain ⟨rfl, rfl⟩ := hpo
  replace h := Hx.perm (w := catW ([[(d0, .inr (4, [.ref (α 0), .ref b0, .ref sl, .ref h0, .ref p0]))], [(h0, .inr (0, [.ref h1, .int (nI o), .int (nI z)]))], [(h1, qA cQ 7 f')], wg'] : List va_W) ++ catW ([wS cI α (nu', S.2.1, qu', sc', lo', wt')] : List va_W)) h (perm_2 5 ([[(d0, .inr (4, [.ref (α 0), .ref b0, .ref sl, .ref h0, .ref p0]))], [(h0, .inr (0, [.ref h1, .int (nI o), .int (nI z)]))], [(h1, qA cQ 7 f')], wS cI α (nu', S.2.1, qu', sc', lo', wt'), wg'] : List va_W) [0, 1, 2, 4] [3] rfl (by decide)).symm
  replace h : Hx s G A ([(d0, .inr (4, [.ref (α 0), .ref b0, .ref sl, .ref h0, .ref p0])), (h0, .inr (0, [.ref h1, .int (nI o), .int (nI z)])), (h1, qA cQ 7 f')] ++ wS cI α (nu', S.2.1, qu', sc', lo', wt') ++ wg' : va_W) _ _ := h
  replace h := Hx.perm (w := catW ([[(d0, .inr (4, [.ref (α 0), .ref b0, .ref sl, .ref h0, .ref p0]))], [(h0, .inr (0, [.ref h1, .int (nI o), .int (nI z)]))], [(h1, qA cQ 7 f')], wS cI α (nu', S.2.1, qu', sc', lo', wt'), wg'] : List va_W)) h (perm_2 5 ([[(d0, .inr (4, [.ref (α 0), .ref b0, .ref sl, .ref h0, .ref p0]))], [(h0, .inr (0, [.ref h1, .int (nI o), .int (nI z)]))], [(h1, qA cQ 7 f')], wS cI α (nu', S.2.1, qu', sc', lo', wt'), wg'] : List va_W) [0, 2, 3, 4] [1] rfl (by decide))
  refine r_callVY (wr := catW ([[(d0, .inr (4, [.ref (α 0), .ref b0, .ref sl, .ref h0, .ref p0]))], [(h1, qA cQ 7 f')], wS cI α (nu', S.2.1, qu', sc', lo', wt'), wg'] : List va_W)) (wc := catW ([[(h0, .inr (0, [.ref h1, .int (nI o), .int (nI z)]))]] : List va_W)) (rest := []) (ci := 0) (N := 3) (Cn := RX0) (T := TX0) C h (cw_X4_pass_X0_keepIfDone_45 C.hts) (CT.toY (c_X0_keepIfDone l G cI cC cZ ((cQ, .object RX2) :: X) h0 h1 (nI o) (nI z) r rv ho' hs' hk)) rfl (List.mem_append_right _ List.mem_cons_self) rfl hl.1 rfl (Nat.le_of_ble_eq_true rfl) ⟨(Nat.le_of_ble_eq_true rfl), (Nat.le_of_ble_eq_true rfl)⟩ dX4_pass_25 (fun res w1 H locs hpo h => ?_)
  obtain ⟨rfl, rfl⟩ := hpo
  replace h := Hx.perm (w := catW ([[(d0, .inr (4, [.ref (α 0), .ref b0, .ref sl, .ref h0, .ref p0]))], [(h1, qA cQ 7 f')], wS cI α (nu', S.2.1, qu', sc', lo', wt'), wg'] : List va_W) ++ catW ([[(h0, .inr (0, [.ref h1, .int ho', .int hs']))]] : List va_W)) h (perm_2 5 ([[(d0, .inr (4, [.ref (α 0), .ref b0, .ref sl, .ref h0, .ref p0]))], [(h0, .inr (0, [.ref h1, .int ho', .int hs']))], [(h1, qA cQ 7 f')], wS cI α (nu', S.2.1, qu', sc', lo', wt'), wg'] : List va_W) [0, 2, 3, 4] [1] rfl (by decide)).symm
  replace h : Hx s G A ([(d0, .inr (4, [.ref (α 0), .ref b0, .ref sl, .ref h0, .ref p0])), (h0, .inr (0, [.ref h1, .int ho', .int hs'])), (h1, qA cQ 7 f')] ++ wS cI α (nu', S.2.1, qu', sc', lo', wt') ++ wg' : va_W) _ _ := h
  exact y_iret C h ⟨rfl, f', wg', Y, hY, hg, rfl⟩ hr hlocks dX4_pass_28
def rm_X4_flush : Room := { frames := 5, cells := 9, slots := 340, locals := 103 }
set_option maxRecDepth 20000 in
theorem lk_X4_flush_26 : Cond.fieldLink RX4 26 "LineDoubler" "history" "LLineDoubler$History;" ∈ wsX4_flush := List.mem_of_getElem? (i := 1) (by decide +kernel)
set_option maxRecDepth 20000 in
theorem lk_X4_flush_10 : Cond.fieldLink RX4 10 "LineDoubler" "state" "LLineDoubler$State;" ∈ wsX4_flush := List.mem_of_getElem? (i := 2) (by decide +kernel)
set_option maxRecDepth 20000 in
theorem in_X4_flush_X4 : ∀ x ∈ wsX40, x ∈ wsX4_flush := mem_r _ [83, 84, 85, 86, 87] (by decide +kernel)
set_option maxRecDepth 20000 in
theorem cw_X4_flush_X0_prepare_37 {s : State} {args : Array Value} (hts : ∀ w ∈ wsX4_flush, w.before args s = true) : CallW rm_X4_flush s args RX4 RX0 37 yX0_prepare cX0_prepare 2 none wsX0_prepare rm_X0_prepare 9 340 1 :=
  cwV 1 hts gX4_flush_X0_prepare rfl rfl rfl (by decide +kernel) ⟨Nat.le_of_ble_eq_true rfl, Nat.le_of_ble_eq_true rfl⟩
set_option maxRecDepth 20000 in
theorem cw_X4_flush_X2_skipAll_59 {s : State} {args : Array Value} (hts : ∀ w ∈ wsX4_flush, w.before args s = true) : CallW rm_X4_flush s args RX4 RX2 59 yX2_skipAll cX2_skipAll 3 (some .int) wsX2_skipAll rm_X2_skipAll 0 0 0 :=
  cwV 0 hts gX4_flush_X2_skipAll rfl rfl rfl (by decide +kernel) ⟨Nat.le_of_ble_eq_true rfl, Nat.le_of_ble_eq_true rfl⟩
set_option maxRecDepth 20000 in
theorem cw_X4_flush_X0_keepIfDone_45 {s : State} {args : Array Value} (hts : ∀ w ∈ wsX4_flush, w.before args s = true) : CallW rm_X4_flush s args RX4 RX0 45 yX0_keepIfDone cX0_keepIfDone 2 (some .int) wsX0_keepIfDone rm_X0_keepIfDone 0 0 1 :=
  cwV 1 hts gX4_flush_X0_keepIfDone rfl rfl rfl (by decide +kernel) ⟨Nat.le_of_ble_eq_true rfl, Nat.le_of_ble_eq_true rfl⟩
set_option maxHeartbeats 4000000 in
set_option maxRecDepth 100000 in
theorem c_X4_flush (l : Launch) (G : va_G) (cI cC cZ cQ : ClassId) (X : List (ClassId × FieldType)) (d0 b0 sl h0 h1 p0 o z : Nat) (ho : o < 7) (hz : z ≤ 6) (f : Nat → Option Nat) (Cs : Nat → Option T6) (wg : va_W) (hRG : RGs cI f Cs 7 wg) (α : Nat → Nat) (S : T6) (nu' : Nat → Int32) (qu' : Nat → Int32) (lo' : Nat → Int32) (r rv ho' hs' : Int32) (hf : fX2_skipAll S.1 S.2.2.1 S.2.2.2.2.1 = some (r, nu', qu', lo')) (hk : fX0_keepIfDone (nI o) (nI z) r = some (rv, ho', hs')) : CY l yX4_flush wsX4_flush rm_X4_flush G (TQ cI cC cZ cQ X) [.ref d0] ([(d0, .inr (4, [.ref (α 0), .ref b0, .ref sl, .ref h0, .ref p0])), (h0, .inr (0, [.ref h1, .int (nI o), .int (nI z)])), (h1, qA cQ 7 f)] ++ wS cI α S ++ wg : va_W) ((po_chg cI cQ d0 b0 sl h0 h1 p0 o z Cs α S (nu', S.2.1, qu', S.2.2.2.1, lo', S.2.2.2.2.2) rv ho' hs')) 9 340 := by
  refine CY.of (cc := cX4_flush) (maxL := 1) (ret := (some .int)) RX4 rfl (by decide) rfl (Nat.le_of_ble_eq_true rfl) ?_
  intro p e s m args below meth c A ls C hr hlocks hnm h hl
  have hx := C.hx
  have hb := C.hb
  have hl : lv_has ls 1 [(0, .ref d0)] := hl
  refine lv_aload_n hx hb dX4_flush_0 rfl (lv_at hl 0 rfl) ?_
  refine r_get C h 0 3 (ci := 4) (N := 5) (Cn := RX4) (T := TX4) rfl rfl (by decide) in_X4_flush_X4 lk_X4_flush_26 rfl dX4_flush_1 ?_
  refine lv_aload_n hx hb dX4_flush_4 rfl (lv_at hl 0 rfl) ?_
  refine r_get C h 0 0 (ci := 4) (N := 5) (Cn := RX4) (T := TX4) rfl rfl (by decide) in_X4_flush_X4 lk_X4_flush_10 rfl dX4_flush_5 ?_
  replace h : Hx s G A ([(d0, .inr (4, [.ref (α 0), .ref b0, .ref sl, .ref h0, .ref p0]))] ++ ([(h0, .inr (0, [.ref h1, .int (nI o), .int (nI z)])), (h1, qA cQ 7 f)] ++ wS cI α S ++ wg)) _ _ := h
  refine r_callVY (rest := []) (ci := 0) (N := 3) (Cn := RX0) (T := TX0) C h (cw_X4_flush_X0_prepare_37 C.hts) (c_X0_prepare l G cI cC cZ cQ X h0 h1 o z ho hz f Cs wg hRG α S) rfl (List.mem_append_right _ List.mem_cons_self) rfl hl.1 rfl (Nat.le_of_ble_eq_true rfl) ⟨(Nat.le_of_ble_eq_true rfl), (Nat.le_of_ble_eq_true rfl)⟩ dX4_flush_8 (fun res w1 H locs hpo hn => ?_)
  clear h
  obtain ⟨rfl, f', wg', Y, hY, hg, rfl⟩ := hpo
  have h := hn
  clear hn
  replace h : Hx s G A ([(d0, .inr (4, [.ref (α 0), .ref b0, .ref sl, .ref h0, .ref p0])), (h0, .inr (0, [.ref h1, .int (nI o), .int (nI z)])), (h1, qA cQ 7 f')] ++ wS cI α S ++ wg' : va_W) _ _ := h
  refine lv_aload_n hx hb dX4_flush_11 rfl (lv_at hl 0 rfl) ?_
  refine r_get C h 0 3 (ci := 4) (N := 5) (Cn := RX4) (T := TX4) rfl rfl (by decide) in_X4_flush_X4 lk_X4_flush_26 rfl dX4_flush_12 ?_
  refine lv_aload_n hx hb dX4_flush_15 rfl (lv_at hl 0 rfl) ?_
  refine r_get C h 0 0 (ci := 4) (N := 5) (Cn := RX4) (T := TX4) rfl rfl (by decide) in_X4_flush_X4 lk_X4_flush_10 rfl dX4_flush_16 ?_
  replace h := Hx.perm (w := catW ([[(d0, .inr (4, [.ref (α 0), .ref b0, .ref sl, .ref h0, .ref p0]))], [(h0, .inr (0, [.ref h1, .int (nI o), .int (nI z)]))], [(h1, qA cQ 7 f')], wS cI α S, wg'] : List va_W)) h (perm_2 5 ([[(d0, .inr (4, [.ref (α 0), .ref b0, .ref sl, .ref h0, .ref p0]))], [(h0, .inr (0, [.ref h1, .int (nI o), .int (nI z)]))], [(h1, qA cQ 7 f')], wS cI α S, wg'] : List va_W) [0, 1, 2, 4] [3] rfl (by decide))
  refine r_callVY (wr := catW ([[(d0, .inr (4, [.ref (α 0), .ref b0, .ref sl, .ref h0, .ref p0]))], [(h0, .inr (0, [.ref h1, .int (nI o), .int (nI z)]))], [(h1, qA cQ 7 f')], wg'] : List va_W)) (wc := catW ([wS cI α S] : List va_W)) (rest := [.ref h0]) (ci := 2) (N := 6) (Cn := RX2) (T := TX2) C h (cw_X4_flush_X2_skipAll_59 C.hts) (CT.toY (c_X2_skipAll l G cI cC cZ ((cQ, .object RX2) :: X) (α 0) (α 1) (α 2) (α 3) (α 4) (α 5) (α 6) (α 7) (α 8) S.1 S.2.1 S.2.2.1 S.2.2.2.1 S.2.2.2.2.1 S.2.2.2.2.2 r nu' qu' lo' hf)) rfl (List.mem_append_right _ List.mem_cons_self) rfl hl.1 rfl (Nat.le_of_ble_eq_true rfl) ⟨(Nat.le_of_ble_eq_true rfl), (Nat.le_of_ble_eq_true rfl)⟩ dX4_flush_19 (fun res w1 H locs hpo h => ?_)
  obtain ⟨rfl, rfl⟩ := hpo
  replace h := Hx.perm (w := catW ([[(d0, .inr (4, [.ref (α 0), .ref b0, .ref sl, .ref h0, .ref p0]))], [(h0, .inr (0, [.ref h1, .int (nI o), .int (nI z)]))], [(h1, qA cQ 7 f')], wg'] : List va_W) ++ catW ([wS cI α (nu', S.2.1, qu', S.2.2.2.1, lo', S.2.2.2.2.2)] : List va_W)) h (perm_2 5 ([[(d0, .inr (4, [.ref (α 0), .ref b0, .ref sl, .ref h0, .ref p0]))], [(h0, .inr (0, [.ref h1, .int (nI o), .int (nI z)]))], [(h1, qA cQ 7 f')], wS cI α (nu', S.2.1, qu', S.2.2.2.1, lo', S.2.2.2.2.2), wg'] : List va_W) [0, 1, 2, 4] [3] rfl (by decide)).symm
  replace h : Hx s G A ([(d0, .inr (4, [.ref (α 0), .ref b0, .ref sl, .ref h0, .ref p0])), (h0, .inr (0, [.ref h1, .int (nI o), .int (nI z)])), (h1, qA cQ 7 f')] ++ wS cI α (nu', S.2.1, qu', S.2.2.2.1, lo', S.2.2.2.2.2) ++ wg' : va_W) _ _ := h
  replace h := Hx.perm (w := catW ([[(d0, .inr (4, [.ref (α 0), .ref b0, .ref sl, .ref h0, .ref p0]))], [(h0, .inr (0, [.ref h1, .int (nI o), .int (nI z)]))], [(h1, qA cQ 7 f')], wS cI α (nu', S.2.1, qu', S.2.2.2.1, lo', S.2.2.2.2.2), wg'] : List va_W)) h (perm_2 5 ([[(d0, .inr (4, [.ref (α 0), .ref b0, .ref sl, .ref h0, .ref p0]))], [(h0, .inr (0, [.ref h1, .int (nI o), .int (nI z)]))], [(h1, qA cQ 7 f')], wS cI α (nu', S.2.1, qu', S.2.2.2.1, lo', S.2.2.2.2.2), wg'] : List va_W) [0, 2, 3, 4] [1] rfl (by decide))
  refine r_callVY (wr := catW ([[(d0, .inr (4, [.ref (α 0), .ref b0, .ref sl, .ref h0, .ref p0]))], [(h1, qA cQ 7 f')], wS cI α (nu', S.2.1, qu', S.2.2.2.1, lo', S.2.2.2.2.2), wg'] : List va_W)) (wc := catW ([[(h0, .inr (0, [.ref h1, .int (nI o), .int (nI z)]))]] : List va_W)) (rest := []) (ci := 0) (N := 3) (Cn := RX0) (T := TX0) C h (cw_X4_flush_X0_keepIfDone_45 C.hts) (CT.toY (c_X0_keepIfDone l G cI cC cZ ((cQ, .object RX2) :: X) h0 h1 (nI o) (nI z) r rv ho' hs' hk)) rfl (List.mem_append_right _ List.mem_cons_self) rfl hl.1 rfl (Nat.le_of_ble_eq_true rfl) ⟨(Nat.le_of_ble_eq_true rfl), (Nat.le_of_ble_eq_true rfl)⟩ dX4_flush_22 (fun res w1 H locs hpo h => ?_)
  obtain ⟨rfl, rfl⟩ := hpo
  replace h := Hx.perm (w := catW ([[(d0, .inr (4, [.ref (α 0), .ref b0, .ref sl, .ref h0, .ref p0]))], [(h1, qA cQ 7 f')], wS cI α (nu', S.2.1, qu', S.2.2.2.1, lo', S.2.2.2.2.2), wg'] : List va_W) ++ catW ([[(h0, .inr (0, [.ref h1, .int ho', .int hs']))]] : List va_W)) h (perm_2 5 ([[(d0, .inr (4, [.ref (α 0), .ref b0, .ref sl, .ref h0, .ref p0]))], [(h0, .inr (0, [.ref h1, .int ho', .int hs']))], [(h1, qA cQ 7 f')], wS cI α (nu', S.2.1, qu', S.2.2.2.1, lo', S.2.2.2.2.2), wg'] : List va_W) [0, 2, 3, 4] [1] rfl (by decide)).symm
  replace h : Hx s G A ([(d0, .inr (4, [.ref (α 0), .ref b0, .ref sl, .ref h0, .ref p0])), (h0, .inr (0, [.ref h1, .int ho', .int hs'])), (h1, qA cQ 7 f')] ++ wS cI α (nu', S.2.1, qu', S.2.2.2.1, lo', S.2.2.2.2.2) ++ wg' : va_W) _ _ := h
  exact y_iret C h ⟨rfl, f', wg', Y, hY, hg, rfl⟩ hr hlocks dX4_flush_25
