/-! ===== constructors: Table, State ===== -/
abbrev TQ (cI cC cZ cQ : ClassId) (X : List (ClassId × FieldType)) : List (ClassId × FieldType) := TY cI cC cZ ((cQ, .object RX2) :: X)
theorem nlt0 {n : Nat} (h : n < 2147483648) : ¬ nI n < 0 := fun g => by
  have := (nI_lt31 (a := n) (b := 0) h (by omega)).1 g
  omega
theorem k_at (i n : Nat) (h : i < n ∧ n < 2147483648) : vp_in (nI i) n ∧ (nI i).toNatClampNeg = i := ⟨vp_in_nI h.1 (by omega), nI_clamp (by omega)⟩
theorem max0 (a b : Nat) (h : a * b < 2147483648) : (if 0 < nI a * nI b then nI a * nI b else 0) = nI (a * b) := by
  rw [pk_mul]
  by_cases g : (0 : Int32) < nI (a * b)
  · rw [if_pos g]
  · rw [if_neg g]
    have h1 : ¬ 0 < a * b := fun z => g ((nI_lt31 (a := 0) (by omega) h).2 z)
    rw [show a * b = 0 by omega]
    rfl
def po_X3_init (cI : ClassId) (t0 : Nat) (co first : Int32) (N : Nat) : Option Value → va_W → Prop := fun res w' => res = none ∧ ∃ (t1 : Nat) (tf : Nat → Int32), (∀ j, j < N → tf j = first) ∧ w' = wTb cI t0 t1 co N tf
def rm_X3_init : Room := { frames := 1, cells := 1, slots := 96, locals := 14 }
set_option maxRecDepth 20000 in
theorem om_X3_init : Cond.methodLink RX3 3 objectInit ∈ wsX3_init := List.mem_of_getElem? (i := 1) (by decide +kernel)
set_option maxRecDepth 20000 in
theorem oi_X3_init : Cond.instanceMethod objectInit ∈ wsX3_init := List.mem_of_getElem? (i := 2) (by decide +kernel)
set_option maxRecDepth 20000 in
theorem oc_X3_init : Cond.code objectInit ⟨#[0xb1]⟩ 1 none ∈ wsX3_init := List.mem_of_getElem? (i := 3) (by decide +kernel)
set_option maxRecDepth 20000 in
theorem lk_X3_init_9 : Cond.fieldLink RX3 9 "LineDoubler$Table" "columns" "I" ∈ wsX3_init := List.mem_of_getElem? (i := 4) (by decide +kernel)
set_option maxRecDepth 20000 in
theorem lm_X3_init_15 : Cond.methodLink RX3 15 Lib.Math.max.name ∈ wsX3_init := List.mem_of_getElem? (i := 5) (by decide +kernel)
set_option maxRecDepth 20000 in
theorem ls_X3_init_max : Cond.static Lib.Math.max.name ∈ wsX3_init := List.mem_of_getElem? (i := 6) (by decide +kernel)
set_option maxRecDepth 20000 in
theorem li_X3_init_Math : Cond.initialized "java/lang/Math" ∈ wsX3_init := List.mem_of_getElem? (i := 7) (by decide +kernel)
set_option maxRecDepth 20000 in
theorem lc_X3_init_max : Cond.code Lib.Math.max.name Lib.Math.max.code 2 (some .int) ∈ wsX3_init := List.mem_of_getElem? (i := 8) (by decide +kernel)
set_option maxRecDepth 20000 in
theorem ac_X3_init_int : Cond.arrayClass .int ∈ wsX3_init := List.mem_of_getElem? (i := 9) (by decide +kernel)
set_option maxRecDepth 20000 in
theorem lk_X3_init_21 : Cond.fieldLink RX3 21 "LineDoubler$Table" "cells" "[I" ∈ wsX3_init := List.mem_of_getElem? (i := 10) (by decide +kernel)
set_option maxRecDepth 20000 in
theorem in_X3_init_X3 : ∀ x ∈ wsX30, x ∈ wsX3_init := mem_r _ [11, 12] (by decide +kernel)
set_option maxHeartbeats 4000000 in
set_option maxRecDepth 100000 in
theorem c_X3_init (l : Launch) (G : va_G) (cI cC cZ cQ : ClassId) (X : List (ClassId × FieldType)) (t0 r k : Nat) (hrk : r * k ≤ 96) (first : Int32) : CY l yX3_init wsX3_init rm_X3_init G (TQ cI cC cZ cQ X) [.ref t0, .int (nI r), .int (nI k), .int first] [(t0, .inr (3, [.int 0, .null]))] ((po_X3_init cI t0 (nI k) first (r * k))) 1 96 := by
  refine CY.of (cc := cX3_init) (maxL := 5) (ret := none) RX3 rfl (by decide) rfl (Nat.le_of_ble_eq_true rfl) ?_
  intro p e s m args below meth c A ls C hr hlocks hnm h hl
  have hx := C.hx
  have hb := C.hb
  have hl : lv_has ls 5 [(0, .ref t0), (1, .int (nI r)), (2, .int (nI k)), (3, .int first)] := hl
  refine lv_aload_n hx hb dX3_init_0 rfl (lv_at hl 0 rfl) ?_
  refine r_obj C hl.1 om_X3_init oi_X3_init oc_X3_init (Nat.le_of_ble_eq_true rfl) (Nat.le_of_ble_eq_true rfl) dX3_init_1 ?_
  refine lv_aload_n hx hb dX3_init_4 rfl (lv_at hl 0 rfl) ?_
  refine lv_iload_n hx hb dX3_init_5 rfl (lv_at hl 2 rfl) ?_
  refine r_putF C h hnm 0 0 (ci := 3) (N := 2) (T := TX3) (ty0 := tyX3) rfl rfl (by decide) in_X3_init_X3 tyX3_ok nmX3 lk_X3_init_9 rfl rfl (by first | rfl | decide +kernel) (by first | rfl | decide +kernel) (Nat.le_of_ble_eq_true rfl) ([(t0, .inr (3, [.int (nI k), .null]))] : va_W) rfl dX3_init_6 (fun H locs h => ?_)
  refine lv_aload_n hx hb dX3_init_9 rfl (lv_at hl 0 rfl) ?_
  refine lv_iconst (v := 0) hx hb dX3_init_10 (by decide) ?_
  refine lv_iload_n hx hb dX3_init_11 rfl (lv_at hl 1 rfl) ?_
  refine lv_iload_n hx hb dX3_init_12 rfl (lv_at hl 2 rfl) ?_
  refine lv_imul hx hb dX3_init_13 ?_
  refine r_max C hl.1 lm_X3_init_15 ls_X3_init_max li_X3_init_Math lc_X3_init_max (Nat.le_of_ble_eq_true rfl) (Nat.le_of_ble_eq_true rfl) (Nat.le_of_ble_eq_true rfl) (Nat.le_of_ble_eq_true rfl) dX3_init_14 ?_
  rw [max0 r k (by omega)]
  refine r_newa C h 0 (atype := .int) rfl ac_X3_init_int rfl ((r * k), .inl fun _ => 0) (fun _ => rfl) (nlt0 (by omega)) (nI_clamp (by omega)) (by show r * k * 4 ≤ 536870912; omega) (Nat.le_of_ble_eq_true rfl) (by show 0 + r * k ≤ 96; omega) dX3_init_17 (fun q17 H h => ?_)
  refine r_putF C h hnm 0 1 (ci := 3) (N := 2) (T := TX3) (ty0 := tyX3) rfl rfl (by decide) in_X3_init_X3 tyX3_ok nmX3 lk_X3_init_21 rfl rfl (by first | rfl | decide +kernel) (by first | rfl | decide +kernel) (Nat.le_of_ble_eq_true rfl) ([(t0, .inr (3, [.int (nI k), .ref q17])), (q17, .inl (cI, (r * k), .inl (fun _ => 0)))] : va_W) rfl dX3_init_19 (fun H locs h => ?_)
  refine lv_iconst (v := 0) hx hb dX3_init_22 (by decide) ?_
  refine lv_istore (lv' := [(4, .int 0), (0, .ref t0), (1, .int (nI r)), (2, .int (nI k)), (3, .int first)]) hx hb dX3_init_23 hl (by decide) rfl (fun ls hl => ?_)
  refine W.widen (k := 1) (n := 96) (by omega) (by omega) ?_
  have loop : ∀ (n i : Nat) (tf : Nat → Int32) (H : Heap) (locs : List Loc) (ls : Array Slot), Hx s G A ([(t0, .inr (3, [.int (nI k), .ref q17])), (q17, .inl (cI, (r * k), .inl tf))] : va_W) H locs → lv_has ls 5 [(4, .int (nI i)), (0, .ref t0), (3, .int first)] → (∀ j, j < i → tf j = first) → i ≤ r * k → r * k < n + i → W p l e rm_X3_init s m args below meth c H locs 1 96 (MQ below (Qy G (po_X3_init cI t0 (nI k) first (r * k)) A) args s 1 96 A) (F0 m 25 ls []) := by
    intro n
    induction n with
    | zero => intro i tf H locs ls h hl ht h1 h2; omega
    | succ n ih =>
      intro i tf H locs ls h hl ht h1 h2
      refine lv_iload hx hb dX3_init_25 (lv_at hl 0 rfl) ?_
      refine lv_aload_n hx hb dX3_init_27 rfl (lv_at hl 1 rfl) ?_
      refine r_get C h 0 1 (ci := 3) (N := 2) (Cn := RX3) (T := TX3) rfl rfl (by decide) in_X3_init_X3 lk_X3_init_21 rfl dX3_init_28 ?_
      refine r_alen C h 1 rfl rfl dX3_init_31 ?_
      refine lv_icmp_ge (tgt := 49) hx hb dX3_init_32 (by decide) (fun hc => ?_) (fun hc => ?_)
      · have hN : i = r * k := by
          have := (nI_le31 (by omega) (by omega)).1 hc
          omega
        subst hN
        exact y_vret C h ⟨rfl, q17, tf, ht, rfl⟩ hr hlocks dX3_init_49
      · have hN : i < r * k := by
          have : ¬ r * k ≤ i := fun g => hc ((nI_le31 (by omega) (by omega)).2 g)
          omega
        refine lv_aload_n hx hb dX3_init_35 rfl (lv_at hl 1 rfl) ?_
        refine r_get C h 0 1 (ci := 3) (N := 2) (Cn := RX3) (T := TX3) rfl rfl (by decide) in_X3_init_X3 lk_X3_init_21 rfl dX3_init_36 ?_
        refine lv_iload hx hb dX3_init_39 (lv_at hl 0 rfl) ?_
        refine lv_iload_n hx hb dX3_init_41 rfl (lv_at hl 2 rfl) ?_
        refine r_ast C h 1 rfl rfl (k_at i (r * k) ⟨hN, by omega⟩) (fun z__ => ([(t0, .inr (3, [.int (nI k), .ref q17])), (q17, .inl (cI, (r * k), .inl z__))] : va_W)) (fun _ => rfl) dX3_init_42 (fun tf_1 etf_1 H locs h => ?_)
        obtain ⟨z4, ez4⟩ : ∃ y : Int32, y = nI i + 1 := ⟨_, rfl⟩
        refine lv_iinc (v := z4) (lv' := [(4, .int z4), (0, .ref t0), (3, .int first)]) hx hb dX3_init_43 hl (k := 0) rfl (by rw [ez4]; rfl) (by decide) rfl (fun ls hl => ?_)
        rw [ez4, nI_1] at hl
        refine lv_goto (tgt := 25) hx hb dX3_init_46 (by decide) ?_
        refine ih (i + 1) tf_1 _ _ _ h hl (fun j hj => ?_) (by omega) (by omega)
        rw [etf_1]
        unfold upd
        by_cases g : j = i
        · rw [if_pos g]
        · rw [if_neg g]
          exact ht j (by omega)
  exact loop (r * k + 1) 0 _ _ _ _ h (lv_sub hl [0, 1, 4] rfl) (fun j hj => by omega) (by omega) (by omega)
