/-! ===== copies of states in a row ===== -/
theorem perm_a {α : Type} (a b c d : List α) : (a ++ b ++ c ++ d).Perm (a ++ c ++ (d ++ b)) := by
  rw [List.append_assoc, List.append_assoc, List.append_assoc a c]
  refine List.Perm.append_left a ?_
  rw [← List.append_assoc c d b]
  rw [← List.append_assoc b c d]
  rw [List.append_assoc b c d]
  exact List.perm_append_comm
theorem perm_b {α : Type} (a b c d : List α) : (a ++ b ++ (c ++ d)).Perm (a ++ d ++ b ++ c) := by
  rw [List.append_assoc, List.append_assoc, List.append_assoc]
  refine List.Perm.append_left a ?_
  rw [← List.append_assoc b c d, ← List.append_assoc d b c]
  exact List.perm_append_comm.trans (by rw [List.append_assoc])
theorem perm_c {α : Type} (a b c d : List α) : (a ++ b ++ c ++ d).Perm (a ++ d ++ b ++ c) := by
  have h := perm_b a b c d
  rw [← List.append_assoc] at h
  exact h
theorem rem7 (o z : Nat) (h : o + z < 1000) : (nI o + nI z) - (nI o + nI z) / 7 * 7 = nI ((o + z) % 7) := by
  rw [nI_add, li_7]
  exact nI_rem (by omega) (by omega) (by omega)
theorem perm_e {α : Type} (a b c : List α) : (a ++ (b ++ c)).Perm (b ++ (a ++ c)) := by
  rw [← List.append_assoc a b c, ← List.append_assoc b a c]
  exact List.perm_append_comm.append_right c
def po_X4_keepCopy (cI cQ : ClassId) (h1 n : Nat) (Cs : Nat → Option T6) (k : Nat) (α : Nat → Nat) (S : T6) : Option Value → va_W → Prop := fun res w' => res = none ∧ ∃ (f' : Nat → Option Nat) (wg' : va_W) (Y : T6), CP S Y ∧ RGs cI f' (va_up Cs k (some Y)) n wg' ∧ w' = [(h1, qA cQ n f')] ++ wS cI α S ++ wg'
def po_X0_prepare (cI cQ : ClassId) (h0 h1 o z : Nat) (Cs : Nat → Option T6) (α : Nat → Nat) (S : T6) : Option Value → va_W → Prop := fun res w' => res = none ∧ ∃ (f' : Nat → Option Nat) (wg' : va_W) (Y : T6), CP S Y ∧ RGs cI f' (va_up Cs ((o + z) % 7) (some Y)) 7 wg' ∧ w' = [(h0, .inr (0, [.ref h1, .int (nI o), .int (nI z)])), (h1, qA cQ 7 f')] ++ wS cI α S ++ wg'
def po_X0_takeLatest (cQ : ClassId) (h0 h1 o z : Nat) (f : Nat → Option Nat) : Option Value → va_W → Prop := fun res w' => (z = 0 ∧ res = some .null ∧ w' = [(h0, .inr (0, [.ref h1, .int (nI o), .int (nI z)])), (h1, qA cQ 7 f)]) ∨ (0 < z ∧ res = some (va_rf (f ((o + (z - 1)) % 7))) ∧ w' = [(h0, .inr (0, [.ref h1, .int (nI o), .int (nI (z - 1))])), (h1, qA cQ 7 f)])
def rm_X4_keepCopy : Room := { frames := 3, cells := 9, slots := 340, locals := 60 }
set_option maxRecDepth 20000 in
theorem nc_X4_keepCopy_7 : Cond.classLink RX4 7 RX2 ∈ wsX4_keepCopy := List.mem_of_getElem? (i := 1) (by decide +kernel)
set_option maxRecDepth 20000 in
theorem ni_X4_keepCopy_7 : Cond.instantiable RX2 6 ∈ wsX4_keepCopy := List.mem_of_getElem? (i := 2) (by decide +kernel)
set_option maxRecDepth 20000 in
theorem nn_X4_keepCopy_7 : Cond.initialized RX2 ∈ wsX4_keepCopy := List.mem_of_getElem? (i := 3) (by decide +kernel)
set_option maxRecDepth 20000 in
theorem in_X4_keepCopy_X2 : ∀ x ∈ wsX20, x ∈ wsX4_keepCopy := mem_r _ [46, 47, 48, 49, 50, 51] (by decide +kernel)
set_option maxRecDepth 20000 in
theorem cw_X4_keepCopy_X2_copyFrom_111 {s : State} {args : Array Value} (hts : ∀ w ∈ wsX4_keepCopy, w.before args s = true) : CallW rm_X4_keepCopy s args RX4 RX2 111 yX2_copyFrom cX2_copyFrom 2 none wsX2_copyFrom rm_X2_copyFrom 0 0 1 :=
  cwV 1 hts gX4_keepCopy_X2_copyFrom rfl rfl rfl (by decide +kernel) ⟨Nat.le_of_ble_eq_true rfl, Nat.le_of_ble_eq_true rfl⟩
set_option maxRecDepth 20000 in
theorem cw_X4_keepCopy_X2_init_9 {s : State} {args : Array Value} (hts : ∀ w ∈ wsX4_keepCopy, w.before args s = true) : CallB rm_X4_keepCopy s args RX4 9 yX2_init cX2_init 2 none wsX2_init rm_X2_init 8 334 0 ∧ (yX2_init : MethodName).name = "<init>" ∧ (Cond.instanceMethod yX2_init).before args s = true :=
  cwI 0 hts gX4_keepCopy_X2_init rfl rfl rfl (hts _ (List.mem_of_getElem? (i := 3) (by decide +kernel))) (hts _ (List.mem_of_getElem? (i := 4) (by decide +kernel))) (hts _ (List.mem_of_getElem? (i := 5) (by decide +kernel))) rfl (by decide +kernel) ⟨Nat.le_of_ble_eq_true rfl, Nat.le_of_ble_eq_true rfl⟩
set_option maxHeartbeats 4000000 in
set_option maxRecDepth 100000 in
theorem c_X4_keepCopy (l : Launch) (G : va_G) (cI cC cZ cQ : ClassId) (X : List (ClassId × FieldType)) (h1 n : Nat) (hn : n < 1000) (f : Nat → Option Nat) (Cs : Nat → Option T6) (wg : va_W) (hRG : RGs cI f Cs n wg) (k : Nat) (hk : k < n) (α : Nat → Nat) (S : T6) : CY l yX4_keepCopy wsX4_keepCopy rm_X4_keepCopy G (TQ cI cC cZ cQ X) [.ref h1, .int (nI k), .ref (α 0)] ([(h1, qA cQ n f)] ++ wS cI α S ++ wg : va_W) ((po_X4_keepCopy cI cQ h1 n Cs k α S)) 9 340 := by
  refine CY.of (cc := cX4_keepCopy) (maxL := 3) (ret := none) RX4 rfl (by decide) rfl (Nat.le_of_ble_eq_true rfl) ?_
  intro p e s m args below meth c A ls C hr hlocks hnm h hl
  have hx := C.hx
  have hb := C.hb
  have hl : lv_has ls 3 [(0, .ref h1), (1, .int (nI k)), (2, .ref (α 0))] := hl
  obtain ⟨wr, wi, hs, hp, hput⟩ := RGs.take n wg k hk hRG
  have tail : ∀ (f1 : Nat → Option Nat) (V : T6) (γ : Nat → Nat) (H : Heap) (locs : List Loc) (ls : Array Slot), f1 k = some (γ 0) → (∀ j, j ≠ k → f1 j = f j) → Hx s G A ([(h1, qA cQ n f1)] ++ wS cI γ V ++ wS cI α S ++ wr : va_W) H locs → lv_has ls 3 [(0, .ref h1), (1, .int (nI k)), (2, .ref (α 0))] → W p l e rm_X4_keepCopy s m args below meth c H locs 9 340 (MQ below (Qy G (po_X4_keepCopy cI cQ h1 n Cs k α S) A) args s 9 340 A) (F0 m 27 ls []) := by
    intro f1 V γ H locs ls hf1 hfn h hl
    obtain ⟨Y, hY⟩ := copy_any V S
    refine lv_aload_n hx hb dX4_keepCopy_27 rfl (lv_at hl 0 rfl) ?_
    refine lv_iload_n hx hb dX4_keepCopy_28 rfl (lv_at hl 1 rfl) ?_
    refine r_aldq C h 0 3 rfl rfl (k_at k n ⟨hk, by omega⟩) dX4_keepCopy_29 ?_
    rw [hf1]
    refine lv_aload_n hx hb dX4_keepCopy_30 rfl (lv_at hl 2 rfl) ?_
    replace h := Hx.perm (w := catW ([[(h1, qA cQ n f1)], wS cI γ V, wS cI α S, wr] : List va_W)) h (perm_2 4 ([[(h1, qA cQ n f1)], wS cI γ V, wS cI α S, wr] : List va_W) [0, 3] [1, 2] rfl (by decide))
    refine r_callVY (wr := catW ([[(h1, qA cQ n f1)], wr] : List va_W)) (wc := catW ([wS cI γ V, wS cI α S] : List va_W)) (rest := []) (ci := 2) (N := 6) (Cn := RX2) (T := TX2) C h (cw_X4_keepCopy_X2_copyFrom_111 C.hts) (CT.toY (c_X2_copyFrom l G cI cC cZ ((cQ, .object RX2) :: X) (γ 0) (γ 1) (γ 2) (γ 3) (γ 4) (γ 5) (γ 6) (γ 7) (γ 8) (α 0) (α 1) (α 2) (α 3) (α 4) (α 5) (α 6) (α 7) (α 8) V.1 V.2.1 V.2.2.1 V.2.2.2.1 V.2.2.2.2.1 V.2.2.2.2.2 S.1 S.2.1 S.2.2.1 S.2.2.2.1 S.2.2.2.2.1 S.2.2.2.2.2 Y.1 Y.2.1 Y.2.2.1 Y.2.2.2.1 Y.2.2.2.2.1 Y.2.2.2.2.2 hY)) rfl (List.mem_append_right _ List.mem_cons_self) rfl hl.1 rfl (Nat.le_of_ble_eq_true rfl) ⟨(Nat.le_of_ble_eq_true rfl), (Nat.le_of_ble_eq_true rfl)⟩ dX4_keepCopy_31 (fun res w1 H locs hpo h => ?_)
    obtain ⟨rfl, rfl⟩ := hpo
    replace h := Hx.perm (w := catW ([[(h1, qA cQ n f1)], wr] : List va_W) ++ catW ([wS cI γ Y, wS cI α S] : List va_W)) h (perm_2 4 ([[(h1, qA cQ n f1)], wS cI γ Y, wS cI α S, wr] : List va_W) [0, 3] [1, 2] rfl (by decide)).symm
    replace h : Hx s G A ([(h1, qA cQ n f1)] ++ wS cI γ Y ++ wS cI α S ++ wr : va_W) _ _ := h
    obtain ⟨wg', hg1, hg2⟩ := hput f1 (va_up Cs k (some Y)) (wS cI γ Y) hfn (fun j hj => va_up_ne _ _ hj) (by rw [hf1, va_up_self]; exact ⟨γ, rfl, rfl⟩)
    have hpp : ([(h1, qA cQ n f1)] ++ wS cI γ Y ++ wS cI α S ++ wr : va_W).Perm ([(h1, qA cQ n f1)] ++ wS cI α S ++ wg') := (perm_a [(h1, qA cQ n f1)] (wS cI γ Y) (wS cI α S) wr).trans (hg2.symm.append_left _)
    exact y_vret C (h.perm hpp) ⟨rfl, f1, wg', Y, ⟨V, hY⟩, hg1, rfl⟩ hr hlocks dX4_keepCopy_34
  refine lv_iload_n hx hb dX4_keepCopy_0 rfl (lv_at hl 1 rfl) ?_
  refine lv_if_lt (tgt := 10) hx hb dX4_keepCopy_1 (by decide) (fun hc => absurd hc (nlt0 (by omega))) (fun _ => ?_)
  refine lv_iload_n hx hb dX4_keepCopy_4 rfl (lv_at hl 1 rfl) ?_
  refine lv_aload_n hx hb dX4_keepCopy_5 rfl (lv_at hl 0 rfl) ?_
  refine r_alenq C h 0 3 rfl rfl dX4_keepCopy_6 ?_
  refine lv_icmp_lt (tgt := 11) hx hb dX4_keepCopy_7 (by decide) (fun _ => ?_) (fun hc => absurd ((nI_lt31 (by omega) (by omega)).2 hk) hc)
  refine lv_aload_n hx hb dX4_keepCopy_11 rfl (lv_at hl 0 rfl) ?_
  refine lv_iload_n hx hb dX4_keepCopy_12 rfl (lv_at hl 1 rfl) ?_
  refine r_aldq C h 0 3 rfl rfl (k_at k n ⟨hk, by omega⟩) dX4_keepCopy_13 ?_
  cases hfk : f k with
  | none =>
    rw [hfk] at hs
    cases hck : Cs k with
    | some V => rw [hck] at hs; exact False.elim hs
    | none =>
      rw [hck] at hs
      have hs : wi = [] := hs
      subst hs
      refine lv_ifnonnullN hx hb dX4_keepCopy_14 ?_
      refine lv_aload_n hx hb dX4_keepCopy_17 rfl (lv_at hl 0 rfl) ?_
      refine lv_iload_n hx hb dX4_keepCopy_18 rfl (lv_at hl 1 rfl) ?_
      refine r_new C h (ci := 2) (N := 6) (Cn := RX2) (T := TX2) (fs := [.null, .null, .null, .null, .null, .int 0]) tyX2 in_X4_keepCopy_X2 tyX2_ok nc_X4_keepCopy_7 ni_X4_keepCopy_7 nn_X4_keepCopy_7 rfl (fun j hj => by rcases (show j = 0 ∨ j = 1 ∨ j = 2 ∨ j = 3 ∨ j = 4 ∨ j = 5 by omega) with rfl | rfl | rfl | rfl | rfl | rfl <;> rfl) (Nat.le_of_ble_eq_true rfl) (Nat.le_of_ble_eq_true rfl) dX4_keepCopy_19 (fun q19 H h => ?_)
      refine lv_dup hx hb dX4_keepCopy_22 rfl ?_
      refine r_callIY (rest := [.ref q19, .int (nI k), .ref h1]) C h (cw_X4_keepCopy_X2_init_9 C.hts) (c_X2_init l G cI cC cZ cQ X q19) rfl hl.1 rfl (Nat.le_of_ble_eq_true rfl) ⟨(Nat.le_of_ble_eq_true rfl), (Nat.le_of_ble_eq_true rfl)⟩ dX4_keepCopy_23 (fun res w1 H locs hpo hn => ?_)
      clear h
      obtain ⟨rfl, γ, V, hγ, -, rfl⟩ := hpo
      subst hγ
      have h := hn
      clear hn
      have hpp : (([(h1, qA cQ n f)] ++ wS cI α S ++ wg : va_W) ++ wS cI γ V).Perm ([(h1, qA cQ n f)] ++ wS cI γ V ++ wS cI α S ++ wr) := by
        rw [List.append_nil] at hp
        exact (perm_c [(h1, qA cQ n f)] (wS cI α S) wg (wS cI γ V)).trans (hp.append_left _)
      replace h := h.perm hpp
      refine r_astq C h 0 3 1 rfl rfl rfl (k_at k n ⟨hk, by omega⟩) dX4_keepCopy_26 (fun H locs h => ?_)
      exact tail (va_up f k (some (γ 0))) V γ _ _ _ (va_up_self _ _ _) (fun j hj => va_up_ne _ _ hj) h hl
  | some a =>
    rw [hfk] at hs
    cases hck : Cs k with
    | none => rw [hck] at hs; exact False.elim hs
    | some V =>
      rw [hck] at hs
      obtain ⟨γ, hγ, rfl⟩ := hs
      subst hγ
      refine lv_ifnonnull (tgt := 27) hx hb dX4_keepCopy_14 (by decide) ?_
      have hpp : ([(h1, qA cQ n f)] ++ wS cI α S ++ wg : va_W).Perm ([(h1, qA cQ n f)] ++ wS cI γ V ++ wS cI α S ++ wr) := (hp.append_left _).trans (perm_b [(h1, qA cQ n f)] (wS cI α S) wr (wS cI γ V))
      replace h := h.perm hpp
      refine W.widen (k := 9) (n := 340) (by omega) (by omega) ?_
      exact tail f V γ _ _ _ hfk (fun j hj => rfl) h hl
def rm_X0_prepare : Room := { frames := 4, cells := 9, slots := 340, locals := 82 }
set_option maxRecDepth 20000 in
theorem lk_X0_prepare_13 : Cond.fieldLink RX0 13 "LineDoubler$History" "states" "[LLineDoubler$State;" ∈ wsX0_prepare := List.mem_of_getElem? (i := 1) (by decide +kernel)
set_option maxRecDepth 20000 in
theorem lk_X0_prepare_17 : Cond.fieldLink RX0 17 "LineDoubler$History" "oldest" "I" ∈ wsX0_prepare := List.mem_of_getElem? (i := 2) (by decide +kernel)
set_option maxRecDepth 20000 in
theorem lk_X0_prepare_21 : Cond.fieldLink RX0 21 "LineDoubler$History" "size" "I" ∈ wsX0_prepare := List.mem_of_getElem? (i := 3) (by decide +kernel)
set_option maxRecDepth 20000 in
theorem in_X0_prepare_X0 : ∀ x ∈ wsX00, x ∈ wsX0_prepare := mem_r _ [52, 53, 54] (by decide +kernel)
set_option maxRecDepth 20000 in
theorem cw_X0_prepare_X4_keepCopy_24 {s : State} {args : Array Value} (hts : ∀ w ∈ wsX0_prepare, w.before args s = true) (hnw : NW s) : va_CN rm_X0_prepare s args RX0 24 yX4_keepCopy "LineDoubler" cX4_keepCopy 3 none wsX4_keepCopy rm_X4_keepCopy 9 340 3 ∧ (Cond.static yX4_keepCopy).before args s = true ∧ True :=
  ⟨va_cnB 3 hts gX0_prepare_X4_keepCopy_n24 rfl rfl rfl (hnw.2.1 _ lkM_0_24) (hts _ (List.mem_of_getElem? (i := 5) (by decide +kernel))) (by decide +kernel) ⟨Nat.le_of_ble_eq_true rfl, Nat.le_of_ble_eq_true rfl⟩, hts _ (List.mem_of_getElem? (i := 4) (by decide +kernel)), trivial⟩
set_option maxHeartbeats 4000000 in
set_option maxRecDepth 100000 in
theorem c_X0_prepare (l : Launch) (G : va_G) (cI cC cZ cQ : ClassId) (X : List (ClassId × FieldType)) (h0 h1 o z : Nat) (ho : o < 7) (hz : z ≤ 6) (f : Nat → Option Nat) (Cs : Nat → Option T6) (wg : va_W) (hRG : RGs cI f Cs 7 wg) (α : Nat → Nat) (S : T6) : CY l yX0_prepare wsX0_prepare rm_X0_prepare G (TQ cI cC cZ cQ X) [.ref h0, .ref (α 0)] ([(h0, .inr (0, [.ref h1, .int (nI o), .int (nI z)])), (h1, qA cQ 7 f)] ++ wS cI α S ++ wg : va_W) ((po_X0_prepare cI cQ h0 h1 o z Cs α S)) 9 340 := by
  refine CY.of (cc := cX0_prepare) (maxL := 2) (ret := none) RX0 rfl (by decide) rfl (Nat.le_of_ble_eq_true rfl) ?_
  intro p e s m args below meth c A ls C hr hlocks hnm h hl
  have hx := C.hx
  have hb := C.hb
  have hl : lv_has ls 2 [(0, .ref h0), (1, .ref (α 0))] := hl
  refine lv_aload_n hx hb dX0_prepare_0 rfl (lv_at hl 0 rfl) ?_
  refine r_get C h 0 0 (ci := 0) (N := 3) (Cn := RX0) (T := TX0) rfl rfl (by decide) in_X0_prepare_X0 lk_X0_prepare_13 rfl dX0_prepare_1 ?_
  refine lv_aload_n hx hb dX0_prepare_4 rfl (lv_at hl 0 rfl) ?_
  refine r_get C h 0 1 (ci := 0) (N := 3) (Cn := RX0) (T := TX0) rfl rfl (by decide) in_X0_prepare_X0 lk_X0_prepare_17 rfl dX0_prepare_5 ?_
  refine lv_aload_n hx hb dX0_prepare_8 rfl (lv_at hl 0 rfl) ?_
  refine r_get C h 0 2 (ci := 0) (N := 3) (Cn := RX0) (T := TX0) rfl rfl (by decide) in_X0_prepare_X0 lk_X0_prepare_21 rfl dX0_prepare_9 ?_
  refine lv_iadd hx hb dX0_prepare_12 ?_
  refine lv_bipush (v := 7) hx hb dX0_prepare_13 (by decide) ?_
  refine lv_irem hx hb dX0_prepare_15 (by decide) ?_
  rw [rem7 o z (by omega)]
  refine lv_aload_n hx hb dX0_prepare_16 rfl (lv_at hl 1 rfl) ?_
  replace h : Hx s G A ([(h0, .inr (0, [.ref h1, .int (nI o), .int (nI z)]))] ++ ([(h1, qA cQ 7 f)] ++ wS cI α S ++ wg)) _ _ := h
  refine r_callSNY (rest := []) C h (cw_X0_prepare_X4_keepCopy_24 C.hts C.nw) (c_X4_keepCopy l G cI cC cZ cQ X h1 7 (by omega) f Cs wg hRG ((o + z) % 7) (by omega) α S) rfl hl.1 rfl (Nat.le_of_ble_eq_true rfl) ⟨(Nat.le_of_ble_eq_true rfl), (Nat.le_of_ble_eq_true rfl)⟩ dX0_prepare_17 (fun res w1 H locs hpo hn => ?_)
  clear h
  obtain ⟨rfl, f', wg', Y, hY, hg, rfl⟩ := hpo
  have h := hn
  clear hn
  exact y_vret C h ⟨rfl, f', wg', Y, hY, hg, rfl⟩ hr hlocks dX0_prepare_20
def rm_X0_takeLatest : Room := { frames := 0, cells := 0, slots := 0, locals := 0 }
set_option maxRecDepth 20000 in
theorem lk_X0_takeLatest_21 : Cond.fieldLink RX0 21 "LineDoubler$History" "size" "I" ∈ wsX0_takeLatest := List.mem_of_getElem? (i := 1) (by decide +kernel)
set_option maxRecDepth 20000 in
theorem lk_X0_takeLatest_13 : Cond.fieldLink RX0 13 "LineDoubler$History" "states" "[LLineDoubler$State;" ∈ wsX0_takeLatest := List.mem_of_getElem? (i := 2) (by decide +kernel)
set_option maxRecDepth 20000 in
theorem lk_X0_takeLatest_17 : Cond.fieldLink RX0 17 "LineDoubler$History" "oldest" "I" ∈ wsX0_takeLatest := List.mem_of_getElem? (i := 3) (by decide +kernel)
set_option maxRecDepth 20000 in
theorem in_X0_takeLatest_X0 : ∀ x ∈ wsX00, x ∈ wsX0_takeLatest := mem_r _ [4, 5, 6] (by decide +kernel)
set_option maxHeartbeats 4000000 in
set_option maxRecDepth 100000 in
theorem c_X0_takeLatest (l : Launch) (G : va_G) (cI cC cZ cQ : ClassId) (X : List (ClassId × FieldType)) (h0 h1 o z : Nat) (ho : o < 7) (hz : z ≤ 6) (f : Nat → Option Nat) : CY l yX0_takeLatest wsX0_takeLatest rm_X0_takeLatest G (TQ cI cC cZ cQ X) [.ref h0] ([(h0, .inr (0, [.ref h1, .int (nI o), .int (nI z)])), (h1, qA cQ 7 f)] : va_W) ((po_X0_takeLatest cQ h0 h1 o z f)) 0 0 := by
  refine CY.of (cc := cX0_takeLatest) (maxL := 1) (ret := (some (.object "LineDoubler$State"))) RX0 rfl (by decide) rfl (Nat.le_of_ble_eq_true rfl) ?_
  intro p e s m args below meth c A ls C hr hlocks hnm h hl
  have hx := C.hx
  have hb := C.hb
  have hl : lv_has ls 1 [(0, .ref h0)] := hl
  refine lv_aload_n hx hb dX0_takeLatest_0 rfl (lv_at hl 0 rfl) ?_
  refine r_get C h 0 2 (ci := 0) (N := 3) (Cn := RX0) (T := TX0) rfl rfl (by decide) in_X0_takeLatest_X0 lk_X0_takeLatest_21 rfl dX0_takeLatest_1 ?_
  refine lv_if_gt (tgt := 9) hx hb dX0_takeLatest_4 (by decide) (fun hc => ?_) (fun hc => ?_)
  · have hz0 : 0 < z := (nI_lt31 (a := 0) (b := z) (by omega) (by omega)).1 hc
    refine lv_aload_n hx hb dX0_takeLatest_9 rfl (lv_at hl 0 rfl) ?_
    refine lv_dup hx hb dX0_takeLatest_10 rfl ?_
    refine r_get C h 0 2 (ci := 0) (N := 3) (Cn := RX0) (T := TX0) rfl rfl (by decide) in_X0_takeLatest_X0 lk_X0_takeLatest_21 rfl dX0_takeLatest_11 ?_
    refine lv_iconst (v := 1) hx hb dX0_takeLatest_14 (by decide) ?_
    refine lv_isub hx hb dX0_takeLatest_15 ?_
    rw [show nI z - 1 = nI (z - 1) from nI_sub (b := 1) (by omega)]
    refine r_put C h 0 2 (ci := 0) (N := 3) (Cn := RX0) (T := TX0) (ty0 := tyX0) rfl rfl (by decide) in_X0_takeLatest_X0 tyX0_ok nmX0 lk_X0_takeLatest_21 rfl (by first | rfl | decide +kernel) (by first | rfl | decide +kernel) (Nat.le_of_ble_eq_true rfl) ([(h0, .inr (0, [.ref h1, .int (nI o), .int (nI (z - 1))])), (h1, qA cQ 7 f)] : va_W) rfl dX0_takeLatest_16 (fun H locs h => ?_)
    refine lv_aload_n hx hb dX0_takeLatest_19 rfl (lv_at hl 0 rfl) ?_
    refine r_get C h 0 0 (ci := 0) (N := 3) (Cn := RX0) (T := TX0) rfl rfl (by decide) in_X0_takeLatest_X0 lk_X0_takeLatest_13 rfl dX0_takeLatest_20 ?_
    refine lv_aload_n hx hb dX0_takeLatest_23 rfl (lv_at hl 0 rfl) ?_
    refine r_get C h 0 1 (ci := 0) (N := 3) (Cn := RX0) (T := TX0) rfl rfl (by decide) in_X0_takeLatest_X0 lk_X0_takeLatest_17 rfl dX0_takeLatest_24 ?_
    refine lv_aload_n hx hb dX0_takeLatest_27 rfl (lv_at hl 0 rfl) ?_
    refine r_get C h 0 2 (ci := 0) (N := 3) (Cn := RX0) (T := TX0) rfl rfl (by decide) in_X0_takeLatest_X0 lk_X0_takeLatest_21 rfl dX0_takeLatest_28 ?_
    refine lv_iadd hx hb dX0_takeLatest_31 ?_
    refine lv_bipush (v := 7) hx hb dX0_takeLatest_32 (by decide) ?_
    refine lv_irem hx hb dX0_takeLatest_34 (by decide) ?_
    rw [rem7 o (z - 1) (by omega)]
    refine r_aldq C h 1 3 rfl rfl (k_at ((o + (z - 1)) % 7) 7 ⟨by omega, by omega⟩) dX0_takeLatest_35 ?_
    exact y_aret C h (Or.inr ⟨hz0, rfl, rfl⟩) hr (Or.inl ⟨_, rfl⟩) hlocks dX0_takeLatest_36
  · have hz0 : z = 0 := by
      have : ¬ 0 < z := fun g => hc ((nI_lt31 (a := 0) (b := z) (by omega) (by omega)).2 g)
      omega
    refine lv_null hx hb dX0_takeLatest_7 ?_
    exact y_aret (o := none) C h (Or.inl ⟨hz0, rfl, rfl⟩) hr (Or.inl ⟨_, rfl⟩) hlocks dX0_takeLatest_8
