/-! ===== the law, from its entry to its loop ===== -/
set_option maxRecDepth 20000 in
theorem cw_L_law_X4_init_53 {s : State} {args : Array Value} (hts : ∀ w ∈ wsL_law, w.before args s = true) : CallB rm_L_law s args RL 53 yX4_init cX4_init 1 none wsX4_init rm_X4_init 23 778 0 ∧ (yX4_init : MethodName).name = "<init>" ∧ (Cond.instanceMethod yX4_init).before args s = true :=
  cwI 0 hts gL_law_X4_init rfl rfl rfl (hts _ (List.mem_of_getElem? (i := 2) (by decide +kernel))) (hts _ (List.mem_of_getElem? (i := 3) (by decide +kernel))) (hts _ (List.mem_of_getElem? (i := 4) (by decide +kernel))) rfl (by decide +kernel) ⟨Nat.le_of_ble_eq_true rfl, Nat.le_of_ble_eq_true rfl⟩
set_option maxHeartbeats 8000000 in
set_option maxRecDepth 100000 in
theorem law_begin {p : Program} {l : Launch} {e : Env} {s : State} {m : MethodId} {args : Array Value} {below : List Frame} {meth : Method} {c : Code} {Q : State → Prop} {G : va_G} {cI cC cZ cQ : ClassId} (C : Cx p s m args c G (TQ cI cC cZ cQ []) (fun q : Nat => s.heap.size ≤ q) RL cL_law wsL_law 12) {b L : Nat} {xs : Nat → Int32} (hX : va_X b L xs s s.heap) (hbl : b < s.heap.size) (hL : L ≤ 260) (hend : ∀ (cells slots : Nat) (H : Heap) (locs : List Loc) (ls : Array Slot), cells ≤ 600000 → slots ≤ 7302250 → (∀ q ∈ locs, s.heap.size ≤ q.base) → lv_has ls 12 [(2, .int 1)] → W p l e room_1 s m args below meth c H locs cells slots Q (F0 m 258 ls [])) {ls : Array Slot} (h : Hx s G (fun q : Nat => s.heap.size ≤ q) ([] : va_W) s.heap []) (hl : lv_has ls 12 [(0, .ref b)]) : W p l e room_1 s m args below meth c s.heap [] 0 0 Q (F0 m 0 ls []) := by
  have hx := C.hx
  have hb := C.hb
  have hbA : ¬ (fun q : Nat => s.heap.size ≤ q) b := Nat.not_le.mpr hbl
  refine r_new C h (ci := 4) (N := 5) (Cn := RX4) (T := TX4) (fs := [.null, .null, .null, .null, .null]) tyX4 inlX4 tyX4_ok (List.mem_of_getElem? (i := 0) (by decide +kernel)) (List.mem_of_getElem? (i := 1) (by decide +kernel)) (List.mem_of_getElem? (i := 2) (by decide +kernel)) rfl (fun j hj => by rcases (show j = 0 ∨ j = 1 ∨ j = 2 ∨ j = 3 ∨ j = 4 by omega) with rfl | rfl | rfl | rfl | rfl <;> rfl) (Nat.le_of_ble_eq_true rfl) (Nat.le_of_ble_eq_true rfl) dL_law_0 (fun d0 H h => ?_)
  refine lv_dup hx hb dL_law_3 rfl ?_
  refine r_callIY (rest := [.ref d0]) C h (cw_L_law_X4_init_53 C.hts) (c_X4_init l G cI cC cZ cQ [] d0) rfl hl.1 rfl (Nat.le_of_ble_eq_true rfl) ⟨(Nat.le_of_ble_eq_true rfl), (Nat.le_of_ble_eq_true rfl)⟩ dL_law_4 (fun res w1 H locs hpo h => ?_)
  obtain ⟨rfl, α, β, S, V, sl, h0, h1, p0, p1, hS, rfl⟩ := hpo
  refine lv_astore_n (lv' := [(1, .ref d0), (0, .ref b)]) hx hb dL_law_7 rfl hl (by decide) rfl (fun ls hl => ?_)
  refine lv_iconst (v := 1) hx hb dL_law_8 (by decide) ?_
  refine lv_istore_n (lv' := [(2, .int 1), (1, .ref d0), (0, .ref b)]) hx hb dL_law_9 rfl hl (by decide) rfl (fun ls hl => ?_)
  refine lv_aload_n hx hb dL_law_10 rfl (lv_at hl 2 rfl) ?_
  have e3 : Int32.ofNat L / 3 = nI (L / 3) := nI_div (a := L) (d := 3) (by omega) (by omega) (by omega)
  have h : Hx s G (fun q : Nat => s.heap.size ≤ q) (catW ([[(d0, .inr (4, [.ref (α 0), .ref (β 0), .ref sl, .ref h0, .ref p0]))], wS cI α S, wS cI β V, [(sl, qA cQ 2 (fun _ => none))], [(h0, .inr (0, [.ref h1, .int (nI 0), .int (nI 0)]))], [(h1, qA cQ 7 (fun _ => none))], [], wPd cC p0 p1 (fun _ => 0) 0 0 0 0 0] : List va_W)) _ _ := h
  have hw : LWk cI cC cZ cQ d0 200000 0 (S.1 0) 0 (catW ([[(d0, .inr (4, [.ref (α 0), .ref (β 0), .ref sl, .ref h0, .ref p0]))], wS cI α S, wS cI β V, [(sl, qA cQ 2 (fun _ => none))], [(h0, .inr (0, [.ref h1, .int (nI 0), .int (nI 0)]))], [(h1, qA cQ 7 (fun _ => none))], [], wPd cC p0 p1 (fun _ => 0) 0 0 0 0 0] : List va_W)) := ⟨α, β, S, V, sl, h0, h1, p0, p1, 0, (fun _ => none), (fun _ => none), (fun _ => none), [], (fun _ => 0), 0, 0, 0, 0, 0, rg_nil cI 7, ⟨z0N, z0_S hS, z0_PI, Nat.le_of_ble_eq_true rfl⟩, ⟨by omega, by omega, fun i hi => absurd hi (Nat.not_lt_zero i)⟩, rfl, rfl⟩
  have go : ∀ t : Nat, t ≤ 40 → W p l e room_1 s m args below meth c H locs (0 + 1 + 23) (0 + 5 + 778) Q (F0 m 28 ls [.int (nI t)]) := by
    intro t ht
    refine lv_topi (fun y_1 ey_1 => ?_)
    refine lv_istore_n (lv' := [(3, .int y_1), (2, .int 1), (1, .ref d0), (0, .ref b)]) hx hb dL_law_28 rfl hl (by decide) rfl (fun ls hl => ?_)
    refine lv_iconst (v := 0) hx hb dL_law_29 (by decide) ?_
    refine lv_istore (lv' := [(4, .int 0), (3, .int y_1), (2, .int 1), (1, .ref d0), (0, .ref b)]) hx hb dL_law_30 hl (by decide) rfl (fun ls hl => ?_)
    rw [ey_1] at hl
    exact law_loop C hX hbl hL ht hend t 0 200000 0 0 _ _ _ _ _ _ _ (by omega) (by omega) (by omega) (by omega) (by omega) (by omega) h hw (lv_sub hl [0, 1, 2, 3, 4] rfl)
  refine va_slen hx hb hX hbl hbA h.2.2 dL_law_11 ?_
  refine lv_iconst (v := 3) hx hb dL_law_12 (by decide) ?_
  refine lv_idiv hx hb dL_law_13 (by decide) ?_
  rw [e3]
  refine lv_bipush (v := 40) hx hb dL_law_14 (by decide) ?_
  refine lv_icmp_le (tgt := 24) hx hb dL_law_16 (by decide) (fun hc => ?_) (fun hc => ?_)
  · have h40 : L / 3 ≤ 40 := (nI_le31 (a := L / 3) (b := 40) (by omega) (by omega)).1 hc
    refine lv_aload_n hx hb dL_law_24 rfl (lv_at hl 2 rfl) ?_
    refine va_slen hx hb hX hbl hbA h.2.2 dL_law_25 ?_
    refine lv_iconst (v := 3) hx hb dL_law_26 (by decide) ?_
    refine lv_idiv hx hb dL_law_27 (by decide) ?_
    rw [e3]
    exact go (L / 3) h40
  · refine lv_bipush (v := 40) hx hb dL_law_19 (by decide) ?_
    refine lv_goto (tgt := 28) hx hb dL_law_21 (by decide) ?_
    exact go 40 (by omega)
