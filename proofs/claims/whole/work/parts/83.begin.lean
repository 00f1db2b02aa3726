/-! ===== the law, from its entry to its loop ===== -/
set_option maxRecDepth 20000 in
theorem cwL_X4_init {s : State} {args : Array Value} (hts : ∀ w ∈ wsL_law, w.before args s = true) : CallB room_1 s args RL 9 yX4_init cX4_init 1 none wsX4_init rm_X4_init 23 778 0 ∧ (yX4_init : MethodName).name = "<init>" ∧ (Cond.instanceMethod yX4_init).before args s = true :=
  cwI 0 hts gL_law_X4_init rfl rfl rfl (hts _ (List.mem_of_getElem? (i := 2) (by decide +kernel))) (hts _ (List.mem_of_getElem? (i := 7) (by decide +kernel))) (hts _ (List.mem_of_getElem? (i := 8) (by decide +kernel))) rfl (by decide +kernel) ⟨(Nat.le_of_ble_eq_true rfl), (Nat.le_of_ble_eq_true rfl)⟩
set_option maxRecDepth 20000 in
theorem cwL_X5_init {s : State} {args : Array Value} (hts : ∀ w ∈ wsL_law, w.before args s = true) : CallB room_1 s args RL 12 yX5_init cX5_init 2 none wsX5_init rm_X5_init 7 2545 0 ∧ (yX5_init : MethodName).name = "<init>" ∧ (Cond.instanceMethod yX5_init).before args s = true :=
  cwI 0 hts gL_law_X5_init rfl rfl rfl (hts _ (List.mem_of_getElem? (i := 5) (by decide +kernel))) (hts _ (List.mem_of_getElem? (i := 60) (by decide +kernel))) (hts _ (List.mem_of_getElem? (i := 61) (by decide +kernel))) rfl (by decide +kernel) ⟨(Nat.le_of_ble_eq_true rfl), (Nat.le_of_ble_eq_true rfl)⟩
set_option maxHeartbeats 8000000 in
set_option maxRecDepth 100000 in
theorem law_begin {p : Program} {l : Launch} {e : Env} {s : State} {m : MethodId} {args : Array Value} {below : List Frame} {meth : Method} {c : Code} {Q : State → Prop} {G : va_G} {cI cC cZ cQ : ClassId} (C : Cx p s m args c G (TQ cI cC cZ cQ []) (fun q : Nat => s.heap.size ≤ q) RL cL_law wsL_law 4) {b L : Nat} {xs : Nat → Int32} (hX : va_X b L xs s s.heap) (hbl : b < s.heap.size) (hL : L ≤ 1536) (hend : ∀ (cells slots : Nat) (H : Heap) (locs : List Loc) (ls : Array Slot), cells ≤ 600000 → slots ≤ 7302249 → (∀ q ∈ locs, s.heap.size ≤ q.base) → W p l e room_1 s m args below meth c H locs cells slots Q (F0 m 679 ls [])) {ls : Array Slot} (h : Hx s G (fun q : Nat => s.heap.size ≤ q) ([] : va_W) s.heap []) (hl : lv_has ls 4 [(0, .ref b)]) : W p l e room_1 s m args below meth c s.heap [] 0 0 Q (F0 m 0 ls []) := by
  have hx := C.hx
  have hb := C.hb
  refine r_new C h (ci := 4) (N := 5) (Cn := RX4) (T := TX4) (fs := [.null, .null, .null, .null, .null]) tyX4 inlX4 tyX4_ok (List.mem_of_getElem? (i := 0) (by decide +kernel)) (List.mem_of_getElem? (i := 1) (by decide +kernel)) (List.mem_of_getElem? (i := 2) (by decide +kernel)) rfl (fun j hj => by rcases (show j = 0 ∨ j = 1 ∨ j = 2 ∨ j = 3 ∨ j = 4 by omega) with rfl | rfl | rfl | rfl | rfl <;> rfl) (Nat.le_of_ble_eq_true rfl) (Nat.le_of_ble_eq_true rfl) dL_law_0 (fun d0 H h => ?_)
  refine lv_dup hx hb dL_law_3 rfl ?_
  refine r_callIY (rest := [.ref d0]) C h (cwL_X4_init C.hts) (c_X4_init l G cI cC cZ cQ [] d0) rfl hl.1 rfl (Nat.le_of_ble_eq_true rfl) ⟨(Nat.le_of_ble_eq_true rfl), (Nat.le_of_ble_eq_true rfl)⟩ dL_law_4 (fun res w1 H locs hpo h => ?_)
  obtain ⟨rfl, α, β, S, V, sl, h0, h1, p0, p1, hS, rfl⟩ := hpo
  refine lv_astore_n (lv' := [(1, .ref d0), (0, .ref b)]) hx hb dL_law_7 rfl hl (by decide) rfl (fun ls hl => ?_)
  refine r_new C h (ci := 5) (N := 11) (Cn := RX5) (T := TX5) (fs := [.null, .null, .null, .int 0, .null, .null, .null, .int 0, .int 0, .null, .int 0]) tyX5 inlX5 tyX5_ok (List.mem_of_getElem? (i := 3) (by decide +kernel)) (List.mem_of_getElem? (i := 4) (by decide +kernel)) (List.mem_of_getElem? (i := 5) (by decide +kernel)) rfl (fun j hj => by rcases (show j = 0 ∨ j = 1 ∨ j = 2 ∨ j = 3 ∨ j = 4 ∨ j = 5 ∨ j = 6 ∨ j = 7 ∨ j = 8 ∨ j = 9 ∨ j = 10 by omega) with rfl | rfl | rfl | rfl | rfl | rfl | rfl | rfl | rfl | rfl | rfl <;> rfl) (Nat.le_of_ble_eq_true rfl) (Nat.le_of_ble_eq_true rfl) dL_law_8 (fun m0 H h => ?_)
  refine lv_dup hx hb dL_law_11 rfl ?_
  refine r_callIY (rest := [.ref m0]) C h (cwL_X5_init C.hts) (c_X5_init l G cI cC cZ cQ [] m0) rfl hl.1 rfl (Nat.le_of_ble_eq_true rfl) ⟨(Nat.le_of_ble_eq_true rfl), (Nat.le_of_ble_eq_true rfl)⟩ dL_law_12 (fun res w1 H locs hpo h => ?_)
  obtain ⟨rfl, μ, now, hM, rfl⟩ := hpo
  refine lv_astore_n (lv' := [(2, .ref m0), (1, .ref d0), (0, .ref b)]) hx hb dL_law_15 rfl hl (by decide) rfl (fun ls hl => ?_)
  refine lv_iconst (v := 0) hx hb dL_law_16 (by decide) ?_
  refine lv_istore_n (lv' := [(3, .int 0), (2, .ref m0), (1, .ref d0), (0, .ref b)]) hx hb dL_law_17 rfl hl (by decide) rfl (fun ls hl => ?_)
  refine law_loop C hX hbl hL hend 600 0 200000 _ _ _ _ _ _ (by omega) (by omega) (Nat.le_of_ble_eq_true rfl) (Nat.le_of_ble_eq_true rfl) (by omega) (by omega) h ⟨α, β, μ, S, V, sl, h0, h1, p0, p1, 0, 0, (fun _ => none), (fun _ => none), (fun _ => none), (fun _ => none), [], [], (fun _ => 0), 0, 0, 0, 0, 0, now, (fun _ => 0), (fun _ => 0), 0, (fun _ => 0), (fun _ => 0), (fun _ => 0), 0, 0, (fun _ => 0), 0, rg_nil cI 2, rg_nil cI 7, l_new hS hM, hs_new 200000, lsl_new 200000, pp_zero _ _, rfl⟩ hl
