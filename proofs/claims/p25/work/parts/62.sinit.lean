/-! ===== State.<init> ===== -/
def adr (l : List Nat) : Nat → Nat := fun k => l.getD k 0
/-- what a new state holds -/
def NewS (S : T6) : Prop := (∀ j, j < 8 → S.1 (16 + j) = sfFirst j) ∧ (∀ j, j < 15 → S.1 j = 0) ∧ S.1 15 = -6 ∧ (∀ j, j < 16 → S.2.1 j = 10 * nI j) ∧ (∀ j, j < 68 → S.2.2.1 j = 0) ∧ (∀ j, j < 96 → S.2.2.2.1 j = -6) ∧ (∀ j, j < 32 → S.2.2.2.2.1 j = 0) ∧ S.2.2.2.2.2 = 0
def po_X2_init (cI : ClassId) (a0 : Nat) : Option Value → va_W → Prop := fun res w' => res = none ∧ ∃ (α : Nat → Nat) (S : T6), α 0 = a0 ∧ NewS S ∧ w' = wS cI α S
theorem i16 (i : Nat) : (16 : Int32) + nI i = nI (16 + i) := by rw [li_16, nI_add]
def rm_X2_init : Room := { frames := 2, cells := 8, slots := 334, locals := 38 }
set_option maxRecDepth 20000 in
theorem om_X2_init : Cond.methodLink RX2 3 objectInit ∈ wsX2_init := List.mem_of_getElem? (i := 1) (by decide +kernel)
set_option maxRecDepth 20000 in
theorem oi_X2_init : Cond.instanceMethod objectInit ∈ wsX2_init := List.mem_of_getElem? (i := 2) (by decide +kernel)
set_option maxRecDepth 20000 in
theorem oc_X2_init : Cond.code objectInit ⟨#[0xb1]⟩ 1 none ∈ wsX2_init := List.mem_of_getElem? (i := 3) (by decide +kernel)
set_option maxRecDepth 20000 in
theorem ac_X2_init_int : Cond.arrayClass .int ∈ wsX2_init := List.mem_of_getElem? (i := 4) (by decide +kernel)
set_option maxRecDepth 20000 in
theorem lk_X2_init_9 : Cond.fieldLink RX2 9 "LineDoubler$State" "numbers" "[I" ∈ wsX2_init := List.mem_of_getElem? (i := 5) (by decide +kernel)
set_option maxRecDepth 20000 in
theorem lk_X2_init_15 : Cond.fieldLink RX2 15 "LineDoubler$State" "values" "[I" ∈ wsX2_init := List.mem_of_getElem? (i := 6) (by decide +kernel)
set_option maxRecDepth 20000 in
theorem nc_X2_init_18 : Cond.classLink RX2 18 RX3 ∈ wsX2_init := List.mem_of_getElem? (i := 7) (by decide +kernel)
set_option maxRecDepth 20000 in
theorem ni_X2_init_18 : Cond.instantiable RX3 2 ∈ wsX2_init := List.mem_of_getElem? (i := 8) (by decide +kernel)
set_option maxRecDepth 20000 in
theorem nn_X2_init_18 : Cond.initialized RX3 ∈ wsX2_init := List.mem_of_getElem? (i := 9) (by decide +kernel)
set_option maxRecDepth 20000 in
theorem lk_X2_init_23 : Cond.fieldLink RX2 23 "LineDoubler$State" "queue" "LLineDoubler$Table;" ∈ wsX2_init := List.mem_of_getElem? (i := 10) (by decide +kernel)
set_option maxRecDepth 20000 in
theorem lk_X2_init_27 : Cond.fieldLink RX2 27 "LineDoubler$State" "screen" "LLineDoubler$Table;" ∈ wsX2_init := List.mem_of_getElem? (i := 11) (by decide +kernel)
set_option maxRecDepth 20000 in
theorem lk_X2_init_30 : Cond.fieldLink RX2 30 "LineDoubler$State" "lost" "LLineDoubler$Table;" ∈ wsX2_init := List.mem_of_getElem? (i := 12) (by decide +kernel)
set_option maxRecDepth 20000 in
theorem in_X2_init_X2 : ∀ x ∈ wsX20, x ∈ wsX2_init := mem_r _ [23, 24, 25, 26, 27, 28] (by decide +kernel)
set_option maxRecDepth 20000 in
theorem in_X2_init_X3 : ∀ x ∈ wsX30, x ∈ wsX2_init := mem_r _ [29, 30] (by decide +kernel)
set_option maxRecDepth 20000 in
theorem cw_X2_init_X3_init_20 {s : State} {args : Array Value} (hts : ∀ w ∈ wsX2_init, w.before args s = true) : CallB rm_X2_init s args RX2 20 yX3_init cX3_init 5 none wsX3_init rm_X3_init 1 96 3 ∧ (yX3_init : MethodName).name = "<init>" ∧ (Cond.instanceMethod yX3_init).before args s = true :=
  cwI 3 hts gX2_init_X3_init rfl rfl rfl (hts _ (List.mem_of_getElem? (i := 9) (by decide +kernel))) (hts _ (List.mem_of_getElem? (i := 13) (by decide +kernel))) (hts _ (List.mem_of_getElem? (i := 14) (by decide +kernel))) rfl (by decide +kernel) ⟨Nat.le_of_ble_eq_true rfl, Nat.le_of_ble_eq_true rfl⟩
set_option maxHeartbeats 4000000 in
set_option maxRecDepth 100000 in
theorem c_X2_init (l : Launch) (G : va_G) (cI cC cZ cQ : ClassId) (X : List (ClassId × FieldType)) (a0 : Nat) : CY l yX2_init wsX2_init rm_X2_init G (TQ cI cC cZ cQ X) [.ref a0] ([(a0, .inr (2, [.null, .null, .null, .null, .null, .int 0]))] : va_W) ((po_X2_init cI a0)) 8 334 := by
  refine CY.of (cc := cX2_init) (maxL := 2) (ret := none) RX2 rfl (by decide) rfl (Nat.le_of_ble_eq_true rfl) ?_
  intro p e s m args below meth c A ls C hr hlocks hnm h hl
  have hx := C.hx
  have hb := C.hb
  have hl : lv_has ls 2 [(0, .ref a0)] := hl
  obtain ⟨⟨tF, hZF, hTF⟩, -, -⟩ := C.sf
  refine lv_aload_n hx hb dX2_init_0 rfl (lv_at hl 0 rfl) ?_
  refine r_obj C hl.1 om_X2_init oi_X2_init oc_X2_init (Nat.le_of_ble_eq_true rfl) (Nat.le_of_ble_eq_true rfl) dX2_init_1 ?_
  refine lv_aload_n hx hb dX2_init_4 rfl (lv_at hl 0 rfl) ?_
  refine lv_bipush (v := 24) hx hb dX2_init_5 (by decide) ?_
  refine r_newa C h 0 (atype := .int) rfl ac_X2_init_int rfl (24, .inl fun _ => 0) (fun _ => rfl) (by decide) (by decide) (by decide) (Nat.le_of_ble_eq_true rfl) (Nat.le_of_ble_eq_true rfl) dX2_init_7 (fun q7 H h => ?_)
  refine r_putF C h hnm 0 0 (ci := 2) (N := 6) (T := TX2) (ty0 := tyX2) rfl rfl (by decide) in_X2_init_X2 tyX2_ok nmX2 lk_X2_init_9 rfl rfl (by first | rfl | decide +kernel) (by first | rfl | decide +kernel) (Nat.le_of_ble_eq_true rfl) ([(a0, .inr (2, [.ref q7, .null, .null, .null, .null, .int 0])), (q7, .inl (cI, 24, .inl (fun _ => 0)))] : va_W) rfl dX2_init_9 (fun H locs h => ?_)
  refine lv_aload_n hx hb dX2_init_12 rfl (lv_at hl 0 rfl) ?_
  refine lv_bipush (v := 16) hx hb dX2_init_13 (by decide) ?_
  refine r_newa C h 0 (atype := .int) rfl ac_X2_init_int rfl (16, .inl fun _ => 0) (fun _ => rfl) (by decide) (by decide) (by decide) (Nat.le_of_ble_eq_true rfl) (Nat.le_of_ble_eq_true rfl) dX2_init_15 (fun q15 H h => ?_)
  refine r_putF C h hnm 0 1 (ci := 2) (N := 6) (T := TX2) (ty0 := tyX2) rfl rfl (by decide) in_X2_init_X2 tyX2_ok nmX2 lk_X2_init_15 rfl rfl (by first | rfl | decide +kernel) (by first | rfl | decide +kernel) (Nat.le_of_ble_eq_true rfl) ([(a0, .inr (2, [.ref q7, .ref q15, .null, .null, .null, .int 0])), (q7, .inl (cI, 24, .inl (fun _ => 0))), (q15, .inl (cI, 16, .inl (fun _ => 0)))] : va_W) rfl dX2_init_17 (fun H locs h => ?_)
  refine lv_aload_n hx hb dX2_init_20 rfl (lv_at hl 0 rfl) ?_
  refine r_new C h (ci := 3) (N := 2) (Cn := RX3) (T := TX3) (fs := [.int 0, .null]) tyX3 in_X2_init_X3 tyX3_ok nc_X2_init_18 ni_X2_init_18 nn_X2_init_18 rfl (fun j hj => by rcases (show j = 0 ∨ j = 1 by omega) with rfl | rfl <;> rfl) (Nat.le_of_ble_eq_true rfl) (Nat.le_of_ble_eq_true rfl) dX2_init_21 (fun q21 H h => ?_)
  refine lv_dup hx hb dX2_init_24 rfl ?_
  refine lv_bipush (v := 17) hx hb dX2_init_25 (by decide) ?_
  refine lv_iconst (v := 4) hx hb dX2_init_27 (by decide) ?_
  refine lv_iconst (v := 0) hx hb dX2_init_28 (by decide) ?_
  refine r_callIY (rest := [.ref q21, .ref a0]) C h (cw_X2_init_X3_init_20 C.hts) (c_X3_init l G cI cC cZ cQ X q21 17 4 (by decide) 0) rfl hl.1 rfl (Nat.le_of_ble_eq_true rfl) ⟨(Nat.le_of_ble_eq_true rfl), (Nat.le_of_ble_eq_true rfl)⟩ dX2_init_29 (fun res w1 H locs hpo hn => ?_)
  clear h
  obtain ⟨rfl, t29, f29, h29, rfl⟩ := hpo
  have h := hn
  clear hn
  refine r_putF C h hnm 0 2 (ci := 2) (N := 6) (T := TX2) (ty0 := tyX2) rfl rfl (by decide) in_X2_init_X2 tyX2_ok nmX2 lk_X2_init_23 rfl rfl (by first | rfl | decide +kernel) (by first | rfl | decide +kernel) (Nat.le_of_ble_eq_true rfl) ([(a0, .inr (2, [.ref q7, .ref q15, .ref q21, .null, .null, .int 0])), (q7, .inl (cI, 24, .inl (fun _ => 0))), (q15, .inl (cI, 16, .inl (fun _ => 0))), (q21, .inr (3, [.int (nI 4), .ref t29])), (t29, .inl (cI, (17 * 4), .inl f29))] : va_W) rfl dX2_init_32 (fun H locs h => ?_)
  refine lv_aload_n hx hb dX2_init_35 rfl (lv_at hl 0 rfl) ?_
  refine r_new C h (ci := 3) (N := 2) (Cn := RX3) (T := TX3) (fs := [.int 0, .null]) tyX3 in_X2_init_X3 tyX3_ok nc_X2_init_18 ni_X2_init_18 nn_X2_init_18 rfl (fun j hj => by rcases (show j = 0 ∨ j = 1 by omega) with rfl | rfl <;> rfl) (Nat.le_of_ble_eq_true rfl) (Nat.le_of_ble_eq_true rfl) dX2_init_36 (fun q36 H h => ?_)
  refine lv_dup hx hb dX2_init_39 rfl ?_
  refine lv_bipush (v := 32) hx hb dX2_init_40 (by decide) ?_
  refine lv_iconst (v := 3) hx hb dX2_init_42 (by decide) ?_
  refine lv_bipush (v := (-6)) hx hb dX2_init_43 (by decide) ?_
  refine r_callIY (rest := [.ref q36, .ref a0]) C h (cw_X2_init_X3_init_20 C.hts) (c_X3_init l G cI cC cZ cQ X q36 32 3 (by decide) (-6)) rfl hl.1 rfl (Nat.le_of_ble_eq_true rfl) ⟨(Nat.le_of_ble_eq_true rfl), (Nat.le_of_ble_eq_true rfl)⟩ dX2_init_45 (fun res w1 H locs hpo hn => ?_)
  clear h
  obtain ⟨rfl, t45, f45, h45, rfl⟩ := hpo
  have h := hn
  clear hn
  refine r_putF C h hnm 0 3 (ci := 2) (N := 6) (T := TX2) (ty0 := tyX2) rfl rfl (by decide) in_X2_init_X2 tyX2_ok nmX2 lk_X2_init_27 rfl rfl (by first | rfl | decide +kernel) (by first | rfl | decide +kernel) (Nat.le_of_ble_eq_true rfl) ([(a0, .inr (2, [.ref q7, .ref q15, .ref q21, .ref q36, .null, .int 0])), (q7, .inl (cI, 24, .inl (fun _ => 0))), (q15, .inl (cI, 16, .inl (fun _ => 0))), (q21, .inr (3, [.int (nI 4), .ref t29])), (t29, .inl (cI, (17 * 4), .inl f29)), (q36, .inr (3, [.int (nI 3), .ref t45])), (t45, .inl (cI, (32 * 3), .inl f45))] : va_W) rfl dX2_init_48 (fun H locs h => ?_)
  refine lv_aload_n hx hb dX2_init_51 rfl (lv_at hl 0 rfl) ?_
  refine r_new C h (ci := 3) (N := 2) (Cn := RX3) (T := TX3) (fs := [.int 0, .null]) tyX3 in_X2_init_X3 tyX3_ok nc_X2_init_18 ni_X2_init_18 nn_X2_init_18 rfl (fun j hj => by rcases (show j = 0 ∨ j = 1 by omega) with rfl | rfl <;> rfl) (Nat.le_of_ble_eq_true rfl) (Nat.le_of_ble_eq_true rfl) dX2_init_52 (fun q52 H h => ?_)
  refine lv_dup hx hb dX2_init_55 rfl ?_
  refine lv_bipush (v := 8) hx hb dX2_init_56 (by decide) ?_
  refine lv_iconst (v := 4) hx hb dX2_init_58 (by decide) ?_
  refine lv_iconst (v := 0) hx hb dX2_init_59 (by decide) ?_
  refine r_callIY (rest := [.ref q52, .ref a0]) C h (cw_X2_init_X3_init_20 C.hts) (c_X3_init l G cI cC cZ cQ X q52 8 4 (by decide) 0) rfl hl.1 rfl (Nat.le_of_ble_eq_true rfl) ⟨(Nat.le_of_ble_eq_true rfl), (Nat.le_of_ble_eq_true rfl)⟩ dX2_init_60 (fun res w1 H locs hpo hn => ?_)
  clear h
  obtain ⟨rfl, t60, f60, h60, rfl⟩ := hpo
  have h := hn
  clear hn
  refine r_putF C h hnm 0 4 (ci := 2) (N := 6) (T := TX2) (ty0 := tyX2) rfl rfl (by decide) in_X2_init_X2 tyX2_ok nmX2 lk_X2_init_30 rfl rfl (by first | rfl | decide +kernel) (by first | rfl | decide +kernel) (Nat.le_of_ble_eq_true rfl) ([(a0, .inr (2, [.ref q7, .ref q15, .ref q21, .ref q36, .ref q52, .int 0])), (q7, .inl (cI, 24, .inl (fun _ => 0))), (q15, .inl (cI, 16, .inl (fun _ => 0))), (q21, .inr (3, [.int (nI 4), .ref t29])), (t29, .inl (cI, (17 * 4), .inl f29)), (q36, .inr (3, [.int (nI 3), .ref t45])), (t45, .inl (cI, (32 * 3), .inl f45)), (q52, .inr (3, [.int (nI 4), .ref t60])), (t60, .inl (cI, (8 * 4), .inl f60))] : va_W) rfl dX2_init_63 (fun H locs h => ?_)
  refine lv_iconst (v := 0) hx hb dX2_init_66 (by decide) ?_
  refine lv_istore_n (lv' := [(1, .int 0), (0, .ref a0)]) hx hb dX2_init_67 rfl hl (by decide) rfl (fun ls hl => ?_)
  refine W.widen (k := 8) (n := 334) (Nat.le_of_ble_eq_true rfl) (Nat.le_of_ble_eq_true rfl) ?_
  have loop2 : ∀ (n i : Nat) (nu va : Nat → Int32) (H : Heap) (locs : List Loc) (ls : Array Slot), Hx s G A ([(a0, .inr (2, [.ref q7, .ref q15, .ref q21, .ref q36, .ref q52, .int 0])), (q7, .inl (cI, 24, .inl nu)), (q15, .inl (cI, 16, .inl va)), (q21, .inr (3, [.int (nI 4), .ref t29])), (t29, .inl (cI, (17 * 4), .inl f29)), (q36, .inr (3, [.int (nI 3), .ref t45])), (t45, .inl (cI, (32 * 3), .inl f45)), (q52, .inr (3, [.int (nI 4), .ref t60])), (t60, .inl (cI, (8 * 4), .inl f60))] : va_W) H locs → lv_has ls 2 [(1, .int (nI i)), (0, .ref a0)] → (∀ j, j < 8 → nu (16 + j) = sfFirst j) → (∀ j, j < 16 → nu j = 0) → (∀ j, j < i → va j = 10 * nI j) → i ≤ 16 → 16 < n + i → W p l e rm_X2_init s m args below meth c H locs 8 334 (MQ below (Qy G (po_X2_init cI a0) A) args s 8 334 A) (F0 m 96 ls []) := by
    intro n
    induction n with
    | zero => intro i nu va H locs ls h hl hn hm hv h1 h2; omega
    | succ n ih =>
      intro i nu va H locs ls h hl hn hm hv h1 h2
      refine lv_iload_n hx hb dX2_init_96 rfl (lv_at hl 0 rfl) ?_
      refine lv_bipush (v := 16) hx hb dX2_init_97 (by decide) ?_
      refine lv_icmp_ge (tgt := 118) hx hb dX2_init_99 (by decide) (fun hc => ?_) (fun hc => ?_)
      · have hN : i = 16 := by
          have := (nI_le31 (a := 16) (b := i) (by omega) (by omega)).1 hc
          omega
        subst hN
        refine lv_aload_n hx hb dX2_init_118 rfl (lv_at hl 1 rfl) ?_
        refine r_get C h 0 0 (ci := 2) (N := 6) (Cn := RX2) (T := TX2) rfl rfl (by decide) in_X2_init_X2 lk_X2_init_9 rfl dX2_init_119 ?_
        refine lv_bipush (v := 15) hx hb dX2_init_122 (by decide) ?_
        refine lv_bipush (v := (-6)) hx hb dX2_init_124 (by decide) ?_
        refine r_ast C h 1 rfl rfl (k_at 15 24 ⟨by omega, by omega⟩) (fun z__ => ([(a0, .inr (2, [.ref q7, .ref q15, .ref q21, .ref q36, .ref q52, .int 0])), (q7, .inl (cI, 24, .inl z__)), (q15, .inl (cI, 16, .inl va)), (q21, .inr (3, [.int (nI 4), .ref t29])), (t29, .inl (cI, (17 * 4), .inl f29)), (q36, .inr (3, [.int (nI 3), .ref t45])), (t45, .inl (cI, (32 * 3), .inl f45)), (q52, .inr (3, [.int (nI 4), .ref t60])), (t60, .inl (cI, (8 * 4), .inl f60))] : va_W)) (fun _ => rfl) dX2_init_126 (fun f_1 ef_1 H locs h => ?_)
        refine y_vret C h ⟨rfl, (adr [a0, q7, q15, q21, t29, q36, t45, q52, t60]), (f_1, va, f29, f45, f60, 0), rfl, ⟨fun j hj => ?_, fun j hj => ?_, ?_, hv, h29, h45, h60, rfl⟩, rfl⟩ hr hlocks dX2_init_127
        · show f_1 (16 + j) = _
          rw [ef_1]
          unfold upd
          rw [if_neg (by omega)]
          exact hn j hj
        · show f_1 j = _
          rw [ef_1]
          unfold upd
          rw [if_neg (by omega)]
          exact hm j (by omega)
        · show f_1 15 = _
          rw [ef_1]
          unfold upd
          rw [if_pos rfl]
      · have hN : i < 16 := by
          have : ¬ 16 ≤ i := fun g => hc ((nI_le31 (a := 16) (b := i) (by omega) (by omega)).2 g)
          omega
        refine lv_aload_n hx hb dX2_init_102 rfl (lv_at hl 1 rfl) ?_
        refine r_get C h 0 1 (ci := 2) (N := 6) (Cn := RX2) (T := TX2) rfl rfl (by decide) in_X2_init_X2 lk_X2_init_15 rfl dX2_init_103 ?_
        refine lv_iload_n hx hb dX2_init_106 rfl (lv_at hl 0 rfl) ?_
        refine lv_bipush (v := 10) hx hb dX2_init_107 (by decide) ?_
        refine lv_iload_n hx hb dX2_init_109 rfl (lv_at hl 0 rfl) ?_
        refine lv_imul hx hb dX2_init_110 ?_
        refine r_ast C h 2 rfl rfl (k_at i 16 ⟨hN, by omega⟩) (fun z__ => ([(a0, .inr (2, [.ref q7, .ref q15, .ref q21, .ref q36, .ref q52, .int 0])), (q7, .inl (cI, 24, .inl nu)), (q15, .inl (cI, 16, .inl z__)), (q21, .inr (3, [.int (nI 4), .ref t29])), (t29, .inl (cI, (17 * 4), .inl f29)), (q36, .inr (3, [.int (nI 3), .ref t45])), (t45, .inl (cI, (32 * 3), .inl f45)), (q52, .inr (3, [.int (nI 4), .ref t60])), (t60, .inl (cI, (8 * 4), .inl f60))] : va_W)) (fun _ => rfl) dX2_init_111 (fun va_2 eva_2 H locs h => ?_)
        obtain ⟨z4, ez4⟩ : ∃ y : Int32, y = nI i + 1 := ⟨_, rfl⟩
        refine lv_iinc (v := z4) (lv' := [(1, .int z4), (0, .ref a0)]) hx hb dX2_init_112 hl (k := 0) rfl (by rw [ez4]; rfl) (by decide) rfl (fun ls hl => ?_)
        rw [ez4, nI_1] at hl
        refine lv_goto (tgt := 96) hx hb dX2_init_115 (by decide) ?_
        refine ih (i + 1) nu va_2 _ _ _ h hl hn hm (fun j hj => ?_) (by omega) (by omega)
        rw [eva_2]
        unfold upd
        by_cases g : j = i
        · rw [if_pos g, g]
        · rw [if_neg g]
          exact hv j (by omega)
  have loop1 : ∀ (n i : Nat) (nu : Nat → Int32) (H : Heap) (locs : List Loc) (ls : Array Slot), Hx s G A ([(a0, .inr (2, [.ref q7, .ref q15, .ref q21, .ref q36, .ref q52, .int 0])), (q7, .inl (cI, 24, .inl nu)), (q15, .inl (cI, 16, .inl (fun _ => 0))), (q21, .inr (3, [.int (nI 4), .ref t29])), (t29, .inl (cI, (17 * 4), .inl f29)), (q36, .inr (3, [.int (nI 3), .ref t45])), (t45, .inl (cI, (32 * 3), .inl f45)), (q52, .inr (3, [.int (nI 4), .ref t60])), (t60, .inl (cI, (8 * 4), .inl f60))] : va_W) H locs → lv_has ls 2 [(1, .int (nI i)), (0, .ref a0)] → (∀ j, j < i → nu (16 + j) = sfFirst j) → (∀ j, j < 16 → nu j = 0) → i ≤ 8 → 8 < n + i → W p l e rm_X2_init s m args below meth c H locs 8 334 (MQ below (Qy G (po_X2_init cI a0) A) args s 8 334 A) (F0 m 68 ls []) := by
    intro n
    induction n with
    | zero => intro i nu H locs ls h hl hn hm h1 h2; omega
    | succ n ih =>
      intro i nu H locs ls h hl hn hm h1 h2
      refine lv_iload_n hx hb dX2_init_68 rfl (lv_at hl 0 rfl) ?_
      refine lv_bipush (v := 8) hx hb dX2_init_69 (by decide) ?_
      refine lv_icmp_ge (tgt := 94) hx hb dX2_init_71 (by decide) (fun hc => ?_) (fun hc => ?_)
      · have hN : i = 8 := by
          have := (nI_le31 (a := 8) (b := i) (by omega) (by omega)).1 hc
          omega
        subst hN
        refine lv_iconst (v := 0) hx hb dX2_init_94 (by decide) ?_
        refine lv_istore_n (lv' := [(1, .int 0), (0, .ref a0)]) hx hb dX2_init_95 rfl hl (by decide) rfl (fun ls hl => ?_)
        exact loop2 17 0 nu (fun _ => 0) _ _ _ h hl hn hm (fun j hj => by omega) (by omega) (by omega)
      · have hN : i < 8 := by
          have : ¬ 8 ≤ i := fun g => hc ((nI_le31 (a := 8) (b := i) (by omega) (by omega)).2 g)
          omega
        refine lv_aload_n hx hb dX2_init_74 rfl (lv_at hl 1 rfl) ?_
        refine r_get C h 0 0 (ci := 2) (N := 6) (Cn := RX2) (T := TX2) rfl rfl (by decide) in_X2_init_X2 lk_X2_init_9 rfl dX2_init_75 ?_
        refine lv_bipush (v := 16) hx hb dX2_init_78 (by decide) ?_
        refine lv_iload_n hx hb dX2_init_80 rfl (lv_at hl 0 rfl) ?_
        refine lv_iadd hx hb dX2_init_81 ?_
        rw [i16 i]
        refine r_getsN C h hZF lkN_2_33 dX2_init_82 ?_
        refine lv_iload_n hx hb dX2_init_85 rfl (lv_at hl 0 rfl) ?_
        refine r_ti C h hTF (k_at i 8 ⟨hN, by omega⟩) dX2_init_86 ?_
        refine r_ast C h 1 rfl rfl (k_at (16 + i) 24 ⟨by omega, by omega⟩) (fun z__ => ([(a0, .inr (2, [.ref q7, .ref q15, .ref q21, .ref q36, .ref q52, .int 0])), (q7, .inl (cI, 24, .inl z__)), (q15, .inl (cI, 16, .inl (fun _ => 0))), (q21, .inr (3, [.int (nI 4), .ref t29])), (t29, .inl (cI, (17 * 4), .inl f29)), (q36, .inr (3, [.int (nI 3), .ref t45])), (t45, .inl (cI, (32 * 3), .inl f45)), (q52, .inr (3, [.int (nI 4), .ref t60])), (t60, .inl (cI, (8 * 4), .inl f60))] : va_W)) (fun _ => rfl) dX2_init_87 (fun nu_3 enu_3 H locs h => ?_)
        obtain ⟨z4, ez4⟩ : ∃ y : Int32, y = nI i + 1 := ⟨_, rfl⟩
        refine lv_iinc (v := z4) (lv' := [(1, .int z4), (0, .ref a0)]) hx hb dX2_init_88 hl (k := 0) rfl (by rw [ez4]; rfl) (by decide) rfl (fun ls hl => ?_)
        rw [ez4, nI_1] at hl
        refine lv_goto (tgt := 68) hx hb dX2_init_91 (by decide) ?_
        refine ih (i + 1) nu_3 _ _ _ h hl (fun j hj => ?_) (fun j hj => ?_) (by omega) (by omega)
        · rw [enu_3]
          unfold upd
          by_cases g : j = i
          · rw [if_pos (by omega), g]
          · rw [if_neg (by omega)]
            exact hn j (by omega)
        · rw [enu_3]
          unfold upd
          rw [if_neg (by omega)]
          exact hm j hj
  exact loop1 9 0 _ _ _ _ h hl (fun j hj => by omega) (fun j hj => rfl) (by omega) (by omega)
