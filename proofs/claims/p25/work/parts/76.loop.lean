/-! ===== the law: its loop ===== -/
theorem Hx.unn {s : State} {G : va_G} {A : Nat → Prop} {w : va_W} {H : Heap} {locs : List Loc} (h : Hx s G A ([] ++ w) H locs) : Hx s G A w H locs := h
set_option maxHeartbeats 8000000 in
set_option maxRecDepth 100000 in
theorem law_loop {p : Program} {l : Launch} {e : Env} {s : State} {m : MethodId} {args : Array Value} {below : List Frame} {meth : Method} {c : Code} {Q : State → Prop} {G : va_G} {cI cC cZ cQ : ClassId} (C : Cx p s m args c G (TQ cI cC cZ cQ []) (fun q : Nat => s.heap.size ≤ q) RL cL_law wsL_law 12) {b L : Nat} {xs : Nat → Int32} (hX : va_X b L xs s s.heap) (hbl : b < s.heap.size) (hL : L ≤ 260) {t d0 : Nat} (ht : t ≤ 40) (hend : ∀ (cells slots : Nat) (H : Heap) (locs : List Loc) (ls : Array Slot), cells ≤ 600000 → slots ≤ 7302250 → (∀ q ∈ locs, s.heap.size ≤ q.base) → lv_has ls 12 [(2, .int 1)] → W p l e room_1 s m args below meth c H locs cells slots Q (F0 m 258 ls [])) : ∀ (n j B T k cells slots : Nat) (n0 : Int32) (w : va_W) (H : Heap) (locs : List Loc) (ls : Array Slot), j + n = t → 200000 ≤ B → B + 1000 * n < 1000000000 → T + 60 * n ≤ 3000 → cells + 18 * n ≤ 600000 → slots + 680 * n ≤ 7302250 → Hx s G (fun q : Nat => s.heap.size ≤ q) w H locs → LWk cI cC cZ cQ d0 B T n0 k w → lv_has ls 12 [(4, .int (nI j)), (3, .int (nI t)), (2, .int 1), (1, .ref d0), (0, .ref b)] → W p l e room_1 s m args below meth c H locs cells slots Q (F0 m 32 ls []) := by
  have hx := C.hx
  have hb := C.hb
  have hbA : ¬ (fun q : Nat => s.heap.size ≤ q) b := Nat.not_le.mpr hbl
  intro n
  induction n with
  | zero =>
    intro j B T k cells slots n0 w H locs ls hjt hB hB2 hT hcc hss h hw hl
    refine lv_iload hx hb dL_law_32 (lv_at hl 0 rfl) ?_
    refine lv_iload_n hx hb dL_law_34 rfl (lv_at hl 1 rfl) ?_
    refine lv_icmp_ge (tgt := 258) hx hb dL_law_35 (by decide) (fun hc => ?_) (fun hc => ?_)
    · exact hend cells slots H locs ls (by omega) (by omega) h.2.2.2.2 (lv_sub hl [2] rfl)
    · exact absurd ((nI_le31 (a := t) (b := j) (by omega) (by omega)).2 (by omega)) hc
  | succ n ih =>
    intro j B T k cells slots n0 w H locs ls hjt hB hB2 hT hcc hss h hw hl
    refine lv_iload hx hb dL_law_32 (lv_at hl 0 rfl) ?_
    refine lv_iload_n hx hb dL_law_34 rfl (lv_at hl 1 rfl) ?_
    refine lv_icmp_ge (tgt := 258) hx hb dL_law_35 (by decide) (fun hc => ?_) (fun hc => ?_)
    · have := (nI_le31 (a := t) (b := j) (by omega) (by omega)).1 hc
      omega
    refine lv_iload_n hx hb dL_law_38 rfl (lv_at hl 2 rfl) ?_
    refine lv_if_eq (tgt := 258) hx hb dL_law_39 (by decide) (fun hc => absurd hc ne10) (fun _ => ?_)
    have hw2 := hw
    obtain ⟨α, β, S, V, sl, h0, h1, p0, p1, o, fs, fh, Ch, wg, ch, pl, pa, po, pf, ps, hRg, hN, hH, rfl, rfl⟩ := hw
    refine lv_aload_n hx hb dL_law_42 rfl (lv_at hl 3 rfl) ?_
    refine lv_bipush (v := 25) hx hb dL_law_43 (by decide) ?_
    replace h : Hx s G (fun q : Nat => s.heap.size ≤ q) ((catW ([wS cI β V, [(sl, qA cQ 2 fs)], [(h1, qA cQ 7 fh)], wg] : List va_W)) ++ (wLDc cI cC d0 (β 0) sl (α 0) (α 1) (α 2) (α 3) (α 4) (α 5) (α 6) (α 7) (α 8) p0 p1 h0 h1 (S.1) (S.2.1) (S.2.2.1) (S.2.2.2.1) (S.2.2.2.2.1) (S.2.2.2.2.2) ch pl pa po pf ps (nI o) (nI k))) _ _ := h.perm (perm_2 8 ([[(d0, .inr (4, [.ref (α 0), .ref (β 0), .ref sl, .ref h0, .ref p0]))], wS cI α S, wS cI β V, [(sl, qA cQ 2 fs)], [(h0, .inr (0, [.ref h1, .int (nI o), .int (nI k)]))], [(h1, qA cQ 7 fh)], wg, wPd cC p0 p1 ch pl pa po pf ps] : List va_W) [2, 3, 5, 6] [0, 1, 7, 4] rfl (by decide))
    refine r_callVY (rest := []) (ci := 4) (N := 5) (Cn := RX4) (T := TX4) C h (cw_L_law_X4_count_9 C.hts) (CT.toY (c_X4_count l G cI cC cZ [(cQ, .object RX2)] d0 (β 0) sl (α 0) (α 1) (α 2) (α 3) (α 4) (α 5) (α 6) (α 7) (α 8) p0 p1 h0 h1 (S.1) (S.2.1) (S.2.2.1) (S.2.2.2.1) (S.2.2.2.2.1) (S.2.2.2.2.2) ch pl pa po pf ps (nI o) (nI k) 25 (nI k) (cn_25 _ _ _))) rfl (List.mem_append_right _ List.mem_cons_self) rfl hl.1 rfl (Nat.le_of_ble_eq_true rfl) ⟨(by show _ ≤ 600000; omega), (by show _ ≤ 7302250; omega)⟩ dL_law_45 (fun res w1 H locs hpo h => ?_)
    obtain ⟨rfl, rfl⟩ := hpo
    replace h : Hx s G (fun q : Nat => s.heap.size ≤ q) (catW ([[(d0, .inr (4, [.ref (α 0), .ref (β 0), .ref sl, .ref h0, .ref p0]))], wS cI α S, wS cI β V, [(sl, qA cQ 2 fs)], [(h0, .inr (0, [.ref h1, .int (nI o), .int (nI k)]))], [(h1, qA cQ 7 fh)], wg, wPd cC p0 p1 ch pl pa po pf ps] : List va_W)) _ _ := Hx.perm (w := (catW ([wS cI β V, [(sl, qA cQ 2 fs)], [(h1, qA cQ 7 fh)], wg] : List va_W)) ++ (catW ([[(d0, .inr (4, [.ref (α 0), .ref (β 0), .ref sl, .ref h0, .ref p0]))], wS cI α S, wPd cC p0 p1 ch pl pa po pf ps, [(h0, .inr (0, [.ref h1, .int (nI o), .int (nI k)]))]] : List va_W))) h (perm_2 8 ([[(d0, .inr (4, [.ref (α 0), .ref (β 0), .ref sl, .ref h0, .ref p0]))], wS cI α S, wS cI β V, [(sl, qA cQ 2 fs)], [(h0, .inr (0, [.ref h1, .int (nI o), .int (nI k)]))], [(h1, qA cQ 7 fh)], wg, wPd cC p0 p1 ch pl pa po pf ps] : List va_W) [2, 3, 5, 6] [0, 1, 7, 4] rfl (by decide)).symm
    refine lv_topi (fun y_1 ey_1 => ?_)
    refine lv_istore (lv' := [(5, .int y_1), (4, .int (nI j)), (3, .int (nI t)), (2, .int 1), (1, .ref d0), (0, .ref b)]) hx hb dL_law_48 hl (by decide) rfl (fun ls hl => ?_)
    refine lv_aload_n hx hb dL_law_50 rfl (lv_at hl 4 rfl) ?_
    refine lv_iconst (v := 0) hx hb dL_law_51 (by decide) ?_
    replace h : Hx s G (fun q : Nat => s.heap.size ≤ q) ((catW ([wS cI β V, [(sl, qA cQ 2 fs)], [(h1, qA cQ 7 fh)], wg] : List va_W)) ++ (wLDc cI cC d0 (β 0) sl (α 0) (α 1) (α 2) (α 3) (α 4) (α 5) (α 6) (α 7) (α 8) p0 p1 h0 h1 (S.1) (S.2.1) (S.2.2.1) (S.2.2.2.1) (S.2.2.2.2.1) (S.2.2.2.2.2) ch pl pa po pf ps (nI o) (nI k))) _ _ := h.perm (perm_2 8 ([[(d0, .inr (4, [.ref (α 0), .ref (β 0), .ref sl, .ref h0, .ref p0]))], wS cI α S, wS cI β V, [(sl, qA cQ 2 fs)], [(h0, .inr (0, [.ref h1, .int (nI o), .int (nI k)]))], [(h1, qA cQ 7 fh)], wg, wPd cC p0 p1 ch pl pa po pf ps] : List va_W) [2, 3, 5, 6] [0, 1, 7, 4] rfl (by decide))
    refine r_callVY (rest := []) (ci := 4) (N := 5) (Cn := RX4) (T := TX4) C h (cw_L_law_X4_count_9 C.hts) (CT.toY (c_X4_count l G cI cC cZ [(cQ, .object RX2)] d0 (β 0) sl (α 0) (α 1) (α 2) (α 3) (α 4) (α 5) (α 6) (α 7) (α 8) p0 p1 h0 h1 (S.1) (S.2.1) (S.2.2.1) (S.2.2.2.1) (S.2.2.2.2.1) (S.2.2.2.2.2) ch pl pa po pf ps (nI o) (nI k) 0 (S.1 0) (g_count (S.1) pl (nI k) 0 (by omega)))) rfl (List.mem_append_right _ List.mem_cons_self) rfl hl.1 rfl (Nat.le_of_ble_eq_true rfl) ⟨(by show _ ≤ 600000; omega), (by show _ ≤ 7302250; omega)⟩ dL_law_52 (fun res w1 H locs hpo h => ?_)
    obtain ⟨rfl, rfl⟩ := hpo
    replace h : Hx s G (fun q : Nat => s.heap.size ≤ q) (catW ([[(d0, .inr (4, [.ref (α 0), .ref (β 0), .ref sl, .ref h0, .ref p0]))], wS cI α S, wS cI β V, [(sl, qA cQ 2 fs)], [(h0, .inr (0, [.ref h1, .int (nI o), .int (nI k)]))], [(h1, qA cQ 7 fh)], wg, wPd cC p0 p1 ch pl pa po pf ps] : List va_W)) _ _ := Hx.perm (w := (catW ([wS cI β V, [(sl, qA cQ 2 fs)], [(h1, qA cQ 7 fh)], wg] : List va_W)) ++ (catW ([[(d0, .inr (4, [.ref (α 0), .ref (β 0), .ref sl, .ref h0, .ref p0]))], wS cI α S, wPd cC p0 p1 ch pl pa po pf ps, [(h0, .inr (0, [.ref h1, .int (nI o), .int (nI k)]))]] : List va_W))) h (perm_2 8 ([[(d0, .inr (4, [.ref (α 0), .ref (β 0), .ref sl, .ref h0, .ref p0]))], wS cI α S, wS cI β V, [(sl, qA cQ 2 fs)], [(h0, .inr (0, [.ref h1, .int (nI o), .int (nI k)]))], [(h1, qA cQ 7 fh)], wg, wPd cC p0 p1 ch pl pa po pf ps] : List va_W) [2, 3, 5, 6] [0, 1, 7, 4] rfl (by decide)).symm
    refine lv_topi (fun y_2 ey_2 => ?_)
    refine lv_istore (lv' := [(6, .int y_2), (5, .int y_1), (4, .int (nI j)), (3, .int (nI t)), (2, .int 1), (1, .ref d0), (0, .ref b)]) hx hb dL_law_55 hl (by decide) rfl (fun ls hl => ?_)
    refine lv_aload_n hx hb dL_law_57 rfl (lv_at hl 5 rfl) ?_
    refine lv_aload_n hx hb dL_law_58 rfl (lv_at hl 6 rfl) ?_
    refine lv_iconst (v := 3) hx hb dL_law_59 (by decide) ?_
    refine lv_iload hx hb dL_law_60 (lv_at hl 2 rfl) ?_
    refine lv_imul hx hb dL_law_62 ?_
    rw [m3 j]
    refine r_callSYX (wr := []) (rest := []) C h hX hbl hbA (cw_L_law_L_act_54 C.hts) (c_L_act l G cI cC cZ cQ b L xs hL (3 * j) (by omega) d0 B T k (by omega) _ _ hw2) rfl hl.1 rfl (Nat.le_of_ble_eq_true rfl) ⟨(by show _ ≤ 600000; omega), (by show _ ≤ 7302250; omega)⟩ dL_law_63 (fun res w1 H locs hpo h => ?_)
    obtain ⟨r, n1, k1, rfl, hrr, hw1⟩ := hpo
    replace h := Hx.unn h
    refine lv_istore (lv' := [(7, .int r), (6, .int y_2), (5, .int y_1), (4, .int (nI j)), (3, .int (nI t)), (2, .int 1), (1, .ref d0), (0, .ref b)]) hx hb dL_law_66 hl (by decide) rfl (fun ls hl => ?_)
    refine lv_iload hx hb dL_law_68 (lv_at hl 0 rfl) ?_
    refine lv_bipush (v := (-20)) hx hb dL_law_70 (by decide) ?_
    rw [ey_1, ey_2] at hl
    have hl8 : lv_has ls 12 [(7, .int r), (6, .int (S.1 0)), (5, .int (nI k)), (4, .int (nI j)), (3, .int (nI t)), (2, .int 1), (1, .ref d0), (0, .ref b)] := lv_sub hl [0, 1, 2, 3, 4, 5, 6, 7] rfl
    refine lv_icmp_ne (tgt := 196) hx hb dL_law_72 (by decide) (fun hc => ?_) (fun hc => ?_)
    · refine law_else C hX hbl hL h hrr hw1 hl8 (by omega) (by omega) (fun H1 locs1 ls1 h1 hl1 => ?_)
      refine law_check C hX hbl hL h1 hw1 hl1 (by omega) (by omega) (fun H2 locs2 ls2 h2 hl2 => ?_)
      exact ih (j + 1) (B + 99) T k1 _ _ _ _ _ _ _ (by omega) (by omega) (by omega) (by omega) (by omega) (by omega) h2 hw1 hl2
    · obtain ⟨ek, en⟩ := hrr (by rw [hc]; decide)
      rw [ek, en] at hw1
      refine law_tick C hX hbl hL (by omega) (by omega) (by omega) (by omega) h hw1 hl8 (by omega) (by omega) (fun w2 n2 k2 H1 locs1 ls1 h1 hw3 hl1 => ?_)
      refine law_check C hX hbl hL h1 hw3 hl1 (by omega) (by omega) (fun H2 locs2 ls2 h2 hl2 => ?_)
      exact ih (j + 1) (B + 99 + 99) (T + 60) k2 _ _ _ _ _ _ _ (by omega) (by omega) (by omega) (by omega) (by omega) (by omega) h2 hw3 hl2
