/-! ===== the law: its checks ===== -/
abbrev rm_L_law : Room := room_1
theorem m3 (j : Nat) : (3 : Int32) * nI j = nI (3 * j) := by rw [li_3, pk_mul]
set_option maxRecDepth 20000 in
theorem cw_L_law_L_lines_64 {s : State} {args : Array Value} (hts : ∀ w ∈ wsL_law, w.before args s = true) : CallB rm_L_law s args RL 64 yL_lines cL_lines 5 (some .boolean) wsL_lines rm_L_lines 0 0 1 ∧ (Cond.static yL_lines).before args s = true :=
  va_cwS 1 hts gL_law_L_lines rfl rfl rfl (by decide +kernel) ⟨Nat.le_of_ble_eq_true rfl, Nat.le_of_ble_eq_true rfl⟩
set_option maxRecDepth 20000 in
theorem cw_L_law_L_rows_68 {s : State} {args : Array Value} (hts : ∀ w ∈ wsL_law, w.before args s = true) : CallB rm_L_law s args RL 68 yL_rows cL_rows 11 (some .boolean) wsL_rows rm_L_rows 0 0 1 ∧ (Cond.static yL_rows).before args s = true :=
  va_cwS 1 hts gL_law_L_rows rfl rfl rfl (by decide +kernel) ⟨Nat.le_of_ble_eq_true rfl, Nat.le_of_ble_eq_true rfl⟩
set_option maxRecDepth 20000 in
theorem cw_L_law_X4_count_9 {s : State} {args : Array Value} (hts : ∀ w ∈ wsL_law, w.before args s = true) : CallW rm_L_law s args RL RX4 9 yX4_count cX4_count 2 (some .int) wsX4_count rm_X4_count 0 0 1 :=
  cwV 1 hts gL_law_X4_count rfl rfl rfl (by decide +kernel) ⟨Nat.le_of_ble_eq_true rfl, Nat.le_of_ble_eq_true rfl⟩
set_option maxRecDepth 20000 in
theorem cw_L_law_L_cell_29 {s : State} {args : Array Value} (hts : ∀ w ∈ wsL_law, w.before args s = true) : CallB rm_L_law s args RL 29 yL_cell cL_cell 2 (some .int) wsL_cell rm_L_cell 0 0 2 ∧ (Cond.static yL_cell).before args s = true :=
  va_cwS 2 hts gL_law_L_cell rfl rfl rfl (by decide +kernel) ⟨Nat.le_of_ble_eq_true rfl, Nat.le_of_ble_eq_true rfl⟩
set_option maxRecDepth 20000 in
theorem cw_L_law_L_low_35 {s : State} {args : Array Value} (hts : ∀ w ∈ wsL_law, w.before args s = true) : CallB rm_L_law s args RL 35 yL_low cL_low 2 (some .int) wsL_low rm_L_low 0 0 2 ∧ (Cond.static yL_low).before args s = true :=
  va_cwS 2 hts gL_law_L_low rfl rfl rfl (by decide +kernel) ⟨Nat.le_of_ble_eq_true rfl, Nat.le_of_ble_eq_true rfl⟩
set_option maxRecDepth 20000 in
theorem cw_L_law_X4_would_58 {s : State} {args : Array Value} (hts : ∀ w ∈ wsL_law, w.before args s = true) : CallW rm_L_law s args RL RX4 58 yX4_would cX4_would 3 (some .int) wsX4_would rm_X4_would 0 0 2 :=
  cwV 2 hts gL_law_X4_would rfl rfl rfl (by decide +kernel) ⟨Nat.le_of_ble_eq_true rfl, Nat.le_of_ble_eq_true rfl⟩
set_option maxRecDepth 20000 in
theorem cw_L_law_X4_pass_61 {s : State} {args : Array Value} (hts : ∀ w ∈ wsL_law, w.before args s = true) : CallW rm_L_law s args RL RX4 61 yX4_pass cX4_pass 2 (some .int) wsX4_pass rm_X4_pass 9 340 1 :=
  cwV 1 hts gL_law_X4_pass rfl rfl rfl (by decide +kernel) ⟨Nat.le_of_ble_eq_true rfl, Nat.le_of_ble_eq_true rfl⟩
set_option maxRecDepth 20000 in
theorem cw_L_law_L_act_54 {s : State} {args : Array Value} (hts : ∀ w ∈ wsL_law, w.before args s = true) : CallB rm_L_law s args RL 54 yL_act cL_act 5 (some .int) wsL_act rm_L_act 9 340 3 ∧ (Cond.static yL_act).before args s = true :=
  va_cwS 3 hts gL_law_L_act rfl rfl rfl (by decide +kernel) ⟨Nat.le_of_ble_eq_true rfl, Nat.le_of_ble_eq_true rfl⟩
set_option maxHeartbeats 8000000 in
set_option maxRecDepth 100000 in
theorem law_check {p : Program} {l : Launch} {e : Env} {s : State} {m : MethodId} {args : Array Value} {below : List Frame} {meth : Method} {c : Code} {Q : State → Prop} {G : va_G} {cI cC cZ cQ : ClassId} (C : Cx p s m args c G (TQ cI cC cZ cQ []) (fun q : Nat => s.heap.size ≤ q) RL cL_law wsL_law 12) {b L : Nat} {xs : Nat → Int32} (hX : va_X b L xs s s.heap) (hbl : b < s.heap.size) (hL : L ≤ 260) {j t d0 B T k cells slots : Nat} {n0 : Int32} {w : va_W} {H : Heap} {locs : List Loc} {ls : Array Slot} (h : Hx s G (fun q : Nat => s.heap.size ≤ q) w H locs) (hw : LWk cI cC cZ cQ d0 B T n0 k w) (hl : lv_has ls 12 [(2, .int 1), (4, .int (nI j)), (3, .int (nI t)), (1, .ref d0), (0, .ref b)]) (hcc : cells ≤ 600000) (hss : slots ≤ 7302250) (kk : ∀ (H1 : Heap) (locs1 : List Loc) (ls1 : Array Slot), Hx s G (fun q : Nat => s.heap.size ≤ q) w H1 locs1 → lv_has ls1 12 [(4, .int (nI (j + 1))), (3, .int (nI t)), (2, .int 1), (1, .ref d0), (0, .ref b)] → W p l e room_1 s m args below meth c H1 locs1 cells slots Q (F0 m 32 ls1 [])) : W p l e room_1 s m args below meth c H locs cells slots Q (F0 m 228 ls []) := by
  obtain ⟨α, β, S, V, sl, h0, h1, p0, p1, o, fs, fh, Ch, wg, ch, pl, pa, po, pf, ps, hRg, hN, hH, hn0, rfl⟩ := hw
  have hx := C.hx
  have hb := C.hb
  have hbA : ¬ (fun q : Nat => s.heap.size ≤ q) b := Nat.not_le.mpr hbl
  refine lv_iload_n hx hb dL_law_228 rfl (lv_at hl 0 rfl) ?_
  refine lv_if_eq (tgt := 250) hx hb dL_law_229 (by decide) (fun hc => absurd hc ne10) (fun _ => ?_)
  refine lv_aload_n hx hb dL_law_232 rfl (lv_at hl 3 rfl) ?_
  replace h : Hx s G (fun q : Nat => s.heap.size ≤ q) ((catW ([wS cI β V, [(sl, qA cQ 2 fs)], [(h1, qA cQ 7 fh)], wg] : List va_W)) ++ (wLDc cI cC d0 (β 0) sl (α 0) (α 1) (α 2) (α 3) (α 4) (α 5) (α 6) (α 7) (α 8) p0 p1 h0 h1 (S.1) (S.2.1) (S.2.2.1) (S.2.2.2.1) (S.2.2.2.2.1) (S.2.2.2.2.2) ch pl pa po pf ps (nI o) (nI k))) _ _ := h.perm (perm_2 8 ([[(d0, .inr (4, [.ref (α 0), .ref (β 0), .ref sl, .ref h0, .ref p0]))], wS cI α S, wS cI β V, [(sl, qA cQ 2 fs)], [(h0, .inr (0, [.ref h1, .int (nI o), .int (nI k)]))], [(h1, qA cQ 7 fh)], wg, wPd cC p0 p1 ch pl pa po pf ps] : List va_W) [2, 3, 5, 6] [0, 1, 7, 4] rfl (by decide))
  refine r_callSY (rest := []) C h (cw_L_law_L_lines_64 C.hts) (CT.toY (c_L_lines l G cI cC cZ [(cQ, .object RX2)] d0 (β 0) sl (α 0) (α 1) (α 2) (α 3) (α 4) (α 5) (α 6) (α 7) (α 8) p0 p1 h0 h1 (S.1) (S.2.1) (S.2.2.1) (S.2.2.2.1) (S.2.2.2.2.1) (S.2.2.2.2.2) ch pl pa po pf ps (nI o) (nI k) 1 (g_lines hN pl (nI k)))) rfl hl.1 rfl (Nat.le_of_ble_eq_true rfl) ⟨(by show _ ≤ 600000; omega), (by show _ ≤ 7302250; omega)⟩ dL_law_233 (fun res w1 H locs hpo h => ?_)
  obtain ⟨rfl, rfl⟩ := hpo
  replace h : Hx s G (fun q : Nat => s.heap.size ≤ q) (catW ([[(d0, .inr (4, [.ref (α 0), .ref (β 0), .ref sl, .ref h0, .ref p0]))], wS cI α S, wS cI β V, [(sl, qA cQ 2 fs)], [(h0, .inr (0, [.ref h1, .int (nI o), .int (nI k)]))], [(h1, qA cQ 7 fh)], wg, wPd cC p0 p1 ch pl pa po pf ps] : List va_W)) _ _ := Hx.perm (w := (catW ([wS cI β V, [(sl, qA cQ 2 fs)], [(h1, qA cQ 7 fh)], wg] : List va_W)) ++ (catW ([[(d0, .inr (4, [.ref (α 0), .ref (β 0), .ref sl, .ref h0, .ref p0]))], wS cI α S, wPd cC p0 p1 ch pl pa po pf ps, [(h0, .inr (0, [.ref h1, .int (nI o), .int (nI k)]))]] : List va_W))) h (perm_2 8 ([[(d0, .inr (4, [.ref (α 0), .ref (β 0), .ref sl, .ref h0, .ref p0]))], wS cI α S, wS cI β V, [(sl, qA cQ 2 fs)], [(h0, .inr (0, [.ref h1, .int (nI o), .int (nI k)]))], [(h1, qA cQ 7 fh)], wg, wPd cC p0 p1 ch pl pa po pf ps] : List va_W) [2, 3, 5, 6] [0, 1, 7, 4] rfl (by decide)).symm
  refine lv_if_eq (tgt := 250) hx hb dL_law_236 (by decide) (fun hc => absurd hc ne10) (fun _ => ?_)
  refine lv_aload_n hx hb dL_law_239 rfl (lv_at hl 3 rfl) ?_
  replace h : Hx s G (fun q : Nat => s.heap.size ≤ q) ((catW ([wS cI β V, [(sl, qA cQ 2 fs)], [(h1, qA cQ 7 fh)], wg] : List va_W)) ++ (wLDc cI cC d0 (β 0) sl (α 0) (α 1) (α 2) (α 3) (α 4) (α 5) (α 6) (α 7) (α 8) p0 p1 h0 h1 (S.1) (S.2.1) (S.2.2.1) (S.2.2.2.1) (S.2.2.2.2.1) (S.2.2.2.2.2) ch pl pa po pf ps (nI o) (nI k))) _ _ := h.perm (perm_2 8 ([[(d0, .inr (4, [.ref (α 0), .ref (β 0), .ref sl, .ref h0, .ref p0]))], wS cI α S, wS cI β V, [(sl, qA cQ 2 fs)], [(h0, .inr (0, [.ref h1, .int (nI o), .int (nI k)]))], [(h1, qA cQ 7 fh)], wg, wPd cC p0 p1 ch pl pa po pf ps] : List va_W) [2, 3, 5, 6] [0, 1, 7, 4] rfl (by decide))
  refine r_callSY (rest := []) C h (cw_L_law_L_rows_68 C.hts) (CT.toY (c_L_rows l G cI cC cZ [(cQ, .object RX2)] d0 (β 0) sl (α 0) (α 1) (α 2) (α 3) (α 4) (α 5) (α 6) (α 7) (α 8) p0 p1 h0 h1 (S.1) (S.2.1) (S.2.2.1) (S.2.2.2.1) (S.2.2.2.2.1) (S.2.2.2.2.2) ch pl pa po pf ps (nI o) (nI k) 1 (g_rows hN pl (nI k)))) rfl hl.1 rfl (Nat.le_of_ble_eq_true rfl) ⟨(by show _ ≤ 600000; omega), (by show _ ≤ 7302250; omega)⟩ dL_law_240 (fun res w1 H locs hpo h => ?_)
  obtain ⟨rfl, rfl⟩ := hpo
  replace h : Hx s G (fun q : Nat => s.heap.size ≤ q) (catW ([[(d0, .inr (4, [.ref (α 0), .ref (β 0), .ref sl, .ref h0, .ref p0]))], wS cI α S, wS cI β V, [(sl, qA cQ 2 fs)], [(h0, .inr (0, [.ref h1, .int (nI o), .int (nI k)]))], [(h1, qA cQ 7 fh)], wg, wPd cC p0 p1 ch pl pa po pf ps] : List va_W)) _ _ := Hx.perm (w := (catW ([wS cI β V, [(sl, qA cQ 2 fs)], [(h1, qA cQ 7 fh)], wg] : List va_W)) ++ (catW ([[(d0, .inr (4, [.ref (α 0), .ref (β 0), .ref sl, .ref h0, .ref p0]))], wS cI α S, wPd cC p0 p1 ch pl pa po pf ps, [(h0, .inr (0, [.ref h1, .int (nI o), .int (nI k)]))]] : List va_W))) h (perm_2 8 ([[(d0, .inr (4, [.ref (α 0), .ref (β 0), .ref sl, .ref h0, .ref p0]))], wS cI α S, wS cI β V, [(sl, qA cQ 2 fs)], [(h0, .inr (0, [.ref h1, .int (nI o), .int (nI k)]))], [(h1, qA cQ 7 fh)], wg, wPd cC p0 p1 ch pl pa po pf ps] : List va_W) [2, 3, 5, 6] [0, 1, 7, 4] rfl (by decide)).symm
  refine lv_if_eq (tgt := 250) hx hb dL_law_243 (by decide) (fun hc => absurd hc ne10) (fun _ => ?_)
  refine lv_iconst (v := 1) hx hb dL_law_246 (by decide) ?_
  refine lv_goto (tgt := 251) hx hb dL_law_247 (by decide) ?_
  refine lv_istore_n (lv' := [(2, .int 1), (4, .int (nI j)), (3, .int (nI t)), (1, .ref d0), (0, .ref b)]) hx hb dL_law_251 rfl hl (by decide) rfl (fun ls hl => ?_)
  obtain ⟨z_, ez⟩ : ∃ y : Int32, y = nI j + 1 := ⟨_, rfl⟩
  refine lv_iinc (v := z_) (lv' := [(4, .int z_), (2, .int 1), (3, .int (nI t)), (1, .ref d0), (0, .ref b)]) hx hb dL_law_252 hl (k := 1) rfl (by rw [ez]; rfl) (by decide) rfl (fun ls hl => ?_)
  rw [ez, aI1] at hl
  refine lv_goto (tgt := 32) hx hb dL_law_255 (by decide) ?_
  exact kk _ _ _ h (lv_sub hl [0, 2, 1, 3, 4] rfl)
set_option maxHeartbeats 8000000 in
set_option maxRecDepth 100000 in
theorem law_else {p : Program} {l : Launch} {e : Env} {s : State} {m : MethodId} {args : Array Value} {below : List Frame} {meth : Method} {c : Code} {Q : State → Prop} {G : va_G} {cI cC cZ cQ : ClassId} (C : Cx p s m args c G (TQ cI cC cZ cQ []) (fun q : Nat => s.heap.size ≤ q) RL cL_law wsL_law 12) {b L : Nat} {xs : Nat → Int32} (hX : va_X b L xs s s.heap) (hbl : b < s.heap.size) (hL : L ≤ 260) {j t d0 B T k k1 cells slots : Nat} {r n0 n1 : Int32} {w : va_W} {H : Heap} {locs : List Loc} {ls : Array Slot} (h : Hx s G (fun q : Nat => s.heap.size ≤ q) w H locs) (hrr : r < 0 → k1 = k ∧ n1 = n0) (hw : LWk cI cC cZ cQ d0 B T n1 k1 w) (hl : lv_has ls 12 [(7, .int r), (6, .int n0), (5, .int (nI k)), (4, .int (nI j)), (3, .int (nI t)), (2, .int 1), (1, .ref d0), (0, .ref b)]) (hcc : cells ≤ 600000) (hss : slots ≤ 7302250) (kk : ∀ (H1 : Heap) (locs1 : List Loc) (ls1 : Array Slot), Hx s G (fun q : Nat => s.heap.size ≤ q) w H1 locs1 → lv_has ls1 12 [(2, .int 1), (4, .int (nI j)), (3, .int (nI t)), (1, .ref d0), (0, .ref b)] → W p l e room_1 s m args below meth c H1 locs1 cells slots Q (F0 m 228 ls1 [])) : W p l e room_1 s m args below meth c H locs cells slots Q (F0 m 196 ls []) := by
  have hx := C.hx
  have hb := C.hb
  have hbA : ¬ (fun q : Nat => s.heap.size ≤ q) b := Nat.not_le.mpr hbl
  have fin : ∀ (H1 : Heap) (locs1 : List Loc), Hx s G (fun q : Nat => s.heap.size ≤ q) w H1 locs1 → W p l e room_1 s m args below meth c H1 locs1 cells slots Q (F0 m 222 ls []) := by
    intro H1 locs1 h
    refine lv_iconst (v := 1) hx hb dL_law_222 (by decide) ?_
    refine lv_goto (tgt := 227) hx hb dL_law_223 (by decide) ?_
    refine lv_istore_n (lv' := [(2, .int 1), (7, .int r), (6, .int n0), (5, .int (nI k)), (4, .int (nI j)), (3, .int (nI t)), (1, .ref d0), (0, .ref b)]) hx hb dL_law_227 rfl hl (by decide) rfl (fun ls hl => ?_)
    exact kk _ _ _ h (lv_sub hl [0, 4, 5, 6, 7] rfl)
  refine lv_iload hx hb dL_law_196 (lv_at hl 0 rfl) ?_
  refine lv_if_ge (tgt := 222) hx hb dL_law_198 (by decide) (fun hc => fin _ _ h) (fun hc => ?_)
  have hr : r < 0 := by
    rw [Int32.lt_iff_toInt_lt]
    rw [Int32.le_iff_toInt_le] at hc
    omega
  obtain ⟨ek, en⟩ := hrr hr
  subst ek
  subst en
  obtain ⟨α, β, S, V, sl, h0, h1, p0, p1, o, fs, fh, Ch, wg, ch, pl, pa, po, pf, ps, hRg, hN, hH, rfl, rfl⟩ := hw
  refine lv_aload_n hx hb dL_law_201 rfl (lv_at hl 6 rfl) ?_
  refine lv_bipush (v := 25) hx hb dL_law_202 (by decide) ?_
  replace h : Hx s G (fun q : Nat => s.heap.size ≤ q) ((catW ([wS cI β V, [(sl, qA cQ 2 fs)], [(h1, qA cQ 7 fh)], wg] : List va_W)) ++ (wLDc cI cC d0 (β 0) sl (α 0) (α 1) (α 2) (α 3) (α 4) (α 5) (α 6) (α 7) (α 8) p0 p1 h0 h1 (S.1) (S.2.1) (S.2.2.1) (S.2.2.2.1) (S.2.2.2.2.1) (S.2.2.2.2.2) ch pl pa po pf ps (nI o) (nI k1))) _ _ := h.perm (perm_2 8 ([[(d0, .inr (4, [.ref (α 0), .ref (β 0), .ref sl, .ref h0, .ref p0]))], wS cI α S, wS cI β V, [(sl, qA cQ 2 fs)], [(h0, .inr (0, [.ref h1, .int (nI o), .int (nI k1)]))], [(h1, qA cQ 7 fh)], wg, wPd cC p0 p1 ch pl pa po pf ps] : List va_W) [2, 3, 5, 6] [0, 1, 7, 4] rfl (by decide))
  refine r_callVY (rest := []) (ci := 4) (N := 5) (Cn := RX4) (T := TX4) C h (cw_L_law_X4_count_9 C.hts) (CT.toY (c_X4_count l G cI cC cZ [(cQ, .object RX2)] d0 (β 0) sl (α 0) (α 1) (α 2) (α 3) (α 4) (α 5) (α 6) (α 7) (α 8) p0 p1 h0 h1 (S.1) (S.2.1) (S.2.2.1) (S.2.2.2.1) (S.2.2.2.2.1) (S.2.2.2.2.2) ch pl pa po pf ps (nI o) (nI k1) 25 (nI k1) (cn_25 _ _ _))) rfl (List.mem_append_right _ List.mem_cons_self) rfl hl.1 rfl (Nat.le_of_ble_eq_true rfl) ⟨(by show _ ≤ 600000; omega), (by show _ ≤ 7302250; omega)⟩ dL_law_204 (fun res w1 H locs hpo h => ?_)
  obtain ⟨rfl, rfl⟩ := hpo
  replace h : Hx s G (fun q : Nat => s.heap.size ≤ q) (catW ([[(d0, .inr (4, [.ref (α 0), .ref (β 0), .ref sl, .ref h0, .ref p0]))], wS cI α S, wS cI β V, [(sl, qA cQ 2 fs)], [(h0, .inr (0, [.ref h1, .int (nI o), .int (nI k1)]))], [(h1, qA cQ 7 fh)], wg, wPd cC p0 p1 ch pl pa po pf ps] : List va_W)) _ _ := Hx.perm (w := (catW ([wS cI β V, [(sl, qA cQ 2 fs)], [(h1, qA cQ 7 fh)], wg] : List va_W)) ++ (catW ([[(d0, .inr (4, [.ref (α 0), .ref (β 0), .ref sl, .ref h0, .ref p0]))], wS cI α S, wPd cC p0 p1 ch pl pa po pf ps, [(h0, .inr (0, [.ref h1, .int (nI o), .int (nI k1)]))]] : List va_W))) h (perm_2 8 ([[(d0, .inr (4, [.ref (α 0), .ref (β 0), .ref sl, .ref h0, .ref p0]))], wS cI α S, wS cI β V, [(sl, qA cQ 2 fs)], [(h0, .inr (0, [.ref h1, .int (nI o), .int (nI k1)]))], [(h1, qA cQ 7 fh)], wg, wPd cC p0 p1 ch pl pa po pf ps] : List va_W) [2, 3, 5, 6] [0, 1, 7, 4] rfl (by decide)).symm
  refine lv_iload hx hb dL_law_207 (lv_at hl 2 rfl) ?_
  refine lv_icmp_ne (tgt := 226) hx hb dL_law_209 (by decide) (fun hc => absurd rfl hc) (fun _ => ?_)
  refine lv_aload_n hx hb dL_law_212 rfl (lv_at hl 6 rfl) ?_
  refine lv_iconst (v := 0) hx hb dL_law_213 (by decide) ?_
  replace h : Hx s G (fun q : Nat => s.heap.size ≤ q) ((catW ([wS cI β V, [(sl, qA cQ 2 fs)], [(h1, qA cQ 7 fh)], wg] : List va_W)) ++ (wLDc cI cC d0 (β 0) sl (α 0) (α 1) (α 2) (α 3) (α 4) (α 5) (α 6) (α 7) (α 8) p0 p1 h0 h1 (S.1) (S.2.1) (S.2.2.1) (S.2.2.2.1) (S.2.2.2.2.1) (S.2.2.2.2.2) ch pl pa po pf ps (nI o) (nI k1))) _ _ := h.perm (perm_2 8 ([[(d0, .inr (4, [.ref (α 0), .ref (β 0), .ref sl, .ref h0, .ref p0]))], wS cI α S, wS cI β V, [(sl, qA cQ 2 fs)], [(h0, .inr (0, [.ref h1, .int (nI o), .int (nI k1)]))], [(h1, qA cQ 7 fh)], wg, wPd cC p0 p1 ch pl pa po pf ps] : List va_W) [2, 3, 5, 6] [0, 1, 7, 4] rfl (by decide))
  refine r_callVY (rest := []) (ci := 4) (N := 5) (Cn := RX4) (T := TX4) C h (cw_L_law_X4_count_9 C.hts) (CT.toY (c_X4_count l G cI cC cZ [(cQ, .object RX2)] d0 (β 0) sl (α 0) (α 1) (α 2) (α 3) (α 4) (α 5) (α 6) (α 7) (α 8) p0 p1 h0 h1 (S.1) (S.2.1) (S.2.2.1) (S.2.2.2.1) (S.2.2.2.2.1) (S.2.2.2.2.2) ch pl pa po pf ps (nI o) (nI k1) 0 (S.1 0) (g_count (S.1) pl (nI k1) 0 (by omega)))) rfl (List.mem_append_right _ List.mem_cons_self) rfl hl.1 rfl (Nat.le_of_ble_eq_true rfl) ⟨(by show _ ≤ 600000; omega), (by show _ ≤ 7302250; omega)⟩ dL_law_214 (fun res w1 H locs hpo h => ?_)
  obtain ⟨rfl, rfl⟩ := hpo
  replace h : Hx s G (fun q : Nat => s.heap.size ≤ q) (catW ([[(d0, .inr (4, [.ref (α 0), .ref (β 0), .ref sl, .ref h0, .ref p0]))], wS cI α S, wS cI β V, [(sl, qA cQ 2 fs)], [(h0, .inr (0, [.ref h1, .int (nI o), .int (nI k1)]))], [(h1, qA cQ 7 fh)], wg, wPd cC p0 p1 ch pl pa po pf ps] : List va_W)) _ _ := Hx.perm (w := (catW ([wS cI β V, [(sl, qA cQ 2 fs)], [(h1, qA cQ 7 fh)], wg] : List va_W)) ++ (catW ([[(d0, .inr (4, [.ref (α 0), .ref (β 0), .ref sl, .ref h0, .ref p0]))], wS cI α S, wPd cC p0 p1 ch pl pa po pf ps, [(h0, .inr (0, [.ref h1, .int (nI o), .int (nI k1)]))]] : List va_W))) h (perm_2 8 ([[(d0, .inr (4, [.ref (α 0), .ref (β 0), .ref sl, .ref h0, .ref p0]))], wS cI α S, wS cI β V, [(sl, qA cQ 2 fs)], [(h0, .inr (0, [.ref h1, .int (nI o), .int (nI k1)]))], [(h1, qA cQ 7 fh)], wg, wPd cC p0 p1 ch pl pa po pf ps] : List va_W) [2, 3, 5, 6] [0, 1, 7, 4] rfl (by decide)).symm
  refine lv_iload hx hb dL_law_217 (lv_at hl 1 rfl) ?_
  refine lv_icmp_ne (tgt := 226) hx hb dL_law_219 (by decide) (fun hc => absurd rfl hc) (fun _ => ?_)
  exact fin _ _ h
