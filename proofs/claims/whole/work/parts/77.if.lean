/-! ===== the law: what if ===== -/
set_option maxHeartbeats 8000000 in
set_option maxRecDepth 100000 in
theorem law_would {p : Program} {l : Launch} {e : Env} {s : State} {m : MethodId} {args : Array Value} {below : List Frame} {meth : Method} {c : Code} {Q : State → Prop} {G : va_G} {cI cC cZ cQ : ClassId} (C : Cx p s m args c G (TQ cI cC cZ cQ []) (fun q : Nat => s.heap.size ≤ q) RL cL_law wsL_law 4) {b L : Nat} {xs : Nat → Int32} (hX : va_X b L xs s s.heap) (hbl : b < s.heap.size) (hL : L ≤ 1536) {i : Nat} (hi : i + 3 ≤ L) {cells slots : Nat} (hcc : cells + 9 ≤ 600000) (hss : slots + 340 ≤ 7302249) {B : Nat} (hB : 200000 ≤ B) (hB2 : B + 5000 < 2000000000) {d0 m0 : Nat} {w : va_W} {H : Heap} {locs : List Loc} {ls : Array Slot} (h : Hx s G (fun q : Nat => s.heap.size ≤ q) w H locs) (hw : LW cI cC cZ cQ d0 m0 B w) (hl : lv_has ls 4 [(3, .int (nI i)), (2, .ref m0), (1, .ref d0), (0, .ref b)]) (kk : ∀ (w1 : va_W) (H1 : Heap) (locs1 : List Loc), Hx s G (fun q : Nat => s.heap.size ≤ q) w1 H1 locs1 → LW cI cC cZ cQ d0 m0 (B + 5000) w1 → W p l e room_1 s m args below meth c H1 locs1 (cells + 9) (slots + 340) Q (F0 m 673 ls [])) : W p l e room_1 s m args below meth c H locs cells slots Q (F0 m 433 ls []) := by
  obtain ⟨α, β, μ, S, V, sl, h0, h1, p0, p1, o, k, fs, fh, Cl, Ch, wl, wg, ch, pl, pa, po, pf, ps, now, thn, past, kept, slt, held, mpad, mpl, mat, ords, ordn, hRl, hRg, hN, hH, hLs, hP, rfl⟩ := hw
  have hx := C.hx
  have hb := C.hb
  have hbA : ¬ (fun q : Nat => s.heap.size ≤ q) b := Nat.not_le.mpr hbl
  obtain ⟨ho, hk6⟩ := hs_b hH
  have v1 : vp_in (nI (i + 1)) L := vp_in_nI (by omega) (by omega)
  have v2 : vp_in (nI (i + 2)) L := vp_in_nI (by omega) (by omega)
  obtain ⟨X1, hX1⟩ : ∃ x : Int32, x = xs (nI (i + 1)).toNatClampNeg := ⟨_, rfl⟩
  obtain ⟨X2, hX2⟩ : ∃ x : Int32, x = xs (nI (i + 2)).toNatClampNeg := ⟨_, rfl⟩
  obtain ⟨r, Y, thn', e1, e2⟩ := l_would hB (by omega) hN V thn X1 X2
  refine lv_aload_n hx hb dL_law_433 rfl (lv_at hl 2 rfl) ?_
  refine lv_aload_n hx hb dL_law_434 rfl (lv_at hl 3 rfl) ?_
  refine lv_iload_n hx hb dL_law_435 rfl (lv_at hl 0 rfl) ?_
  refine lv_iconst (v := 1) hx hb dL_law_436 (by decide) ?_
  refine lv_iadd hx hb dL_law_437 ?_
  rw [aI1 i]
  refine va_sld hx hb hX hbl hbA h.2.2 v1 dL_law_438 ?_
  rw [← hX1]
  refine lv_aload_n hx hb dL_law_439 rfl (lv_at hl 3 rfl) ?_
  refine lv_iload_n hx hb dL_law_440 rfl (lv_at hl 0 rfl) ?_
  refine lv_iconst (v := 2) hx hb dL_law_441 (by decide) ?_
  refine lv_iadd hx hb dL_law_442 ?_
  rw [aI2 i]
  refine va_sld hx hb hX hbl hbA h.2.2 v2 dL_law_443 ?_
  rw [← hX2]
  replace h : Hx s G (fun q : Nat => s.heap.size ≤ q) ((catW ([[(sl, qA cQ 2 fs)], wl, [(h0, .inr (0, [.ref h1, .int (nI o), .int (nI k)]))], [(h1, qA cQ 7 fh)], wg, wPd cC p0 p1 ch pl pa po pf ps, wMd cI cZ m0 (μ 1) (μ 2) (μ 3) (μ 4) (μ 5) (μ 6) (μ 7) now thn past kept slt held mpad mpl mat ords ordn] : List va_W)) ++ (wLDt cI d0 sl h0 p0 (α 0) (α 1) (α 2) (α 3) (α 4) (α 5) (α 6) (α 7) (α 8) (β 0) (β 1) (β 2) (β 3) (β 4) (β 5) (β 6) (β 7) (β 8) (S.1) (S.2.1) (S.2.2.1) (S.2.2.2.1) (S.2.2.2.2.1) (S.2.2.2.2.2) (V.1) (V.2.1) (V.2.2.1) (V.2.2.2.1) (V.2.2.2.2.1) (V.2.2.2.2.2))) _ _ := h.perm (perm_2 10 ([[(d0, .inr (4, [.ref (α 0), .ref (β 0), .ref sl, .ref h0, .ref p0]))], wS cI α S, wS cI β V, [(sl, qA cQ 2 fs)], wl, [(h0, .inr (0, [.ref h1, .int (nI o), .int (nI k)]))], [(h1, qA cQ 7 fh)], wg, wPd cC p0 p1 ch pl pa po pf ps, wMd cI cZ m0 (μ 1) (μ 2) (μ 3) (μ 4) (μ 5) (μ 6) (μ 7) now thn past kept slt held mpad mpl mat ords ordn] : List va_W) [3, 4, 5, 6, 7, 8, 9] [0, 1, 2] rfl (by decide))
  refine r_callVY (rest := []) (ci := 4) (N := 5) (Cn := RX4) (T := TX4) C h (cwL_X4_would C.hts) (CT.toY (c_X4_would l G cI cC cZ [(cQ, .object RX2)] d0 sl h0 p0 (α 0) (α 1) (α 2) (α 3) (α 4) (α 5) (α 6) (α 7) (α 8) (β 0) (β 1) (β 2) (β 3) (β 4) (β 5) (β 6) (β 7) (β 8) S.1 S.2.1 S.2.2.1 S.2.2.2.1 S.2.2.2.2.1 S.2.2.2.2.2 V.1 V.2.1 V.2.2.1 V.2.2.2.1 V.2.2.2.2.1 V.2.2.2.2.2 X1 X2 r (Y.1) (Y.2.1) (Y.2.2.1) (Y.2.2.2.1) (Y.2.2.2.2.1) (Y.2.2.2.2.2) e1)) rfl (List.mem_append_right _ List.mem_cons_self) rfl hl.1 rfl (Nat.le_of_ble_eq_true rfl) ⟨(by show _ ≤ 600000; omega), (by show _ ≤ 7302249; omega)⟩ dL_law_444 (fun res w1 H locs hpo h => ?_)
  obtain ⟨rfl, rfl⟩ := hpo
  replace h : Hx s G (fun q : Nat => s.heap.size ≤ q) (catW ([[(d0, .inr (4, [.ref (α 0), .ref (β 0), .ref sl, .ref h0, .ref p0]))], wS cI α S, wS cI β Y, [(sl, qA cQ 2 fs)], wl, [(h0, .inr (0, [.ref h1, .int (nI o), .int (nI k)]))], [(h1, qA cQ 7 fh)], wg, wPd cC p0 p1 ch pl pa po pf ps, wMd cI cZ m0 (μ 1) (μ 2) (μ 3) (μ 4) (μ 5) (μ 6) (μ 7) now thn past kept slt held mpad mpl mat ords ordn] : List va_W)) _ _ := Hx.perm (w := (catW ([[(sl, qA cQ 2 fs)], wl, [(h0, .inr (0, [.ref h1, .int (nI o), .int (nI k)]))], [(h1, qA cQ 7 fh)], wg, wPd cC p0 p1 ch pl pa po pf ps, wMd cI cZ m0 (μ 1) (μ 2) (μ 3) (μ 4) (μ 5) (μ 6) (μ 7) now thn past kept slt held mpad mpl mat ords ordn] : List va_W)) ++ (catW ([[(d0, .inr (4, [.ref (α 0), .ref (β 0), .ref sl, .ref h0, .ref p0]))], wS cI α S, wS cI β Y] : List va_W))) h (perm_2 10 ([[(d0, .inr (4, [.ref (α 0), .ref (β 0), .ref sl, .ref h0, .ref p0]))], wS cI α S, wS cI β Y, [(sl, qA cQ 2 fs)], wl, [(h0, .inr (0, [.ref h1, .int (nI o), .int (nI k)]))], [(h1, qA cQ 7 fh)], wg, wPd cC p0 p1 ch pl pa po pf ps, wMd cI cZ m0 (μ 1) (μ 2) (μ 3) (μ 4) (μ 5) (μ 6) (μ 7) now thn past kept slt held mpad mpl mat ords ordn] : List va_W) [3, 4, 5, 6, 7, 8, 9] [0, 1, 2] rfl (by decide)).symm
  refine lv_aload_n hx hb dL_law_447 rfl (lv_at hl 1 rfl) ?_
  refine lv_aload_n hx hb dL_law_448 rfl (lv_at hl 3 rfl) ?_
  refine lv_iload_n hx hb dL_law_449 rfl (lv_at hl 0 rfl) ?_
  refine lv_iconst (v := 1) hx hb dL_law_450 (by decide) ?_
  refine lv_iadd hx hb dL_law_451 ?_
  rw [aI1 i]
  refine va_sld hx hb hX hbl hbA h.2.2 v1 dL_law_452 ?_
  rw [← hX1]
  refine lv_aload_n hx hb dL_law_453 rfl (lv_at hl 3 rfl) ?_
  refine lv_iload_n hx hb dL_law_454 rfl (lv_at hl 0 rfl) ?_
  refine lv_iconst (v := 2) hx hb dL_law_455 (by decide) ?_
  refine lv_iadd hx hb dL_law_456 ?_
  rw [aI2 i]
  refine va_sld hx hb hX hbl hbA h.2.2 v2 dL_law_457 ?_
  rw [← hX2]
  replace h : Hx s G (fun q : Nat => s.heap.size ≤ q) ((catW ([[(d0, .inr (4, [.ref (α 0), .ref (β 0), .ref sl, .ref h0, .ref p0]))], wS cI α S, wS cI β Y, [(sl, qA cQ 2 fs)], wl, [(h0, .inr (0, [.ref h1, .int (nI o), .int (nI k)]))], [(h1, qA cQ 7 fh)], wg, wPd cC p0 p1 ch pl pa po pf ps] : List va_W)) ++ wMd cI cZ m0 (μ 1) (μ 2) (μ 3) (μ 4) (μ 5) (μ 6) (μ 7) now thn past kept slt held mpad mpl mat ords ordn) _ _ := h.perm (perm_2 10 ([[(d0, .inr (4, [.ref (α 0), .ref (β 0), .ref sl, .ref h0, .ref p0]))], wS cI α S, wS cI β Y, [(sl, qA cQ 2 fs)], wl, [(h0, .inr (0, [.ref h1, .int (nI o), .int (nI k)]))], [(h1, qA cQ 7 fh)], wg, wPd cC p0 p1 ch pl pa po pf ps, wMd cI cZ m0 (μ 1) (μ 2) (μ 3) (μ 4) (μ 5) (μ 6) (μ 7) now thn past kept slt held mpad mpl mat ords ordn] : List va_W) [0, 1, 2, 3, 4, 5, 6, 7, 8] [9] rfl (by decide))
  refine r_callVY (rest := [.int r]) (ci := 5) (N := 11) (Cn := RX5) (T := TX5) C h (cwL_X5_would C.hts) (CT.toY (c_X5_would l G cI cC cZ [(cQ, .object RX2)] m0 (μ 1) (μ 2) (μ 3) (μ 4) (μ 5) (μ 6) (μ 7) now thn past kept slt held mpad mpl mat ords ordn X1 X2 r thn' e2)) rfl (List.mem_append_right _ List.mem_cons_self) rfl hl.1 rfl (Nat.le_of_ble_eq_true rfl) ⟨(by show _ ≤ 600000; omega), (by show _ ≤ 7302249; omega)⟩ dL_law_458 (fun res w1 H locs hpo h => ?_)
  obtain ⟨rfl, rfl⟩ := hpo
  replace h : Hx s G (fun q : Nat => s.heap.size ≤ q) (catW ([[(d0, .inr (4, [.ref (α 0), .ref (β 0), .ref sl, .ref h0, .ref p0]))], wS cI α S, wS cI β Y, [(sl, qA cQ 2 fs)], wl, [(h0, .inr (0, [.ref h1, .int (nI o), .int (nI k)]))], [(h1, qA cQ 7 fh)], wg, wPd cC p0 p1 ch pl pa po pf ps, wMd cI cZ m0 (μ 1) (μ 2) (μ 3) (μ 4) (μ 5) (μ 6) (μ 7) now thn' past kept slt held mpad mpl mat ords ordn] : List va_W)) _ _ := Hx.perm (w := (catW ([[(d0, .inr (4, [.ref (α 0), .ref (β 0), .ref sl, .ref h0, .ref p0]))], wS cI α S, wS cI β Y, [(sl, qA cQ 2 fs)], wl, [(h0, .inr (0, [.ref h1, .int (nI o), .int (nI k)]))], [(h1, qA cQ 7 fh)], wg, wPd cC p0 p1 ch pl pa po pf ps] : List va_W)) ++ (catW ([wMd cI cZ m0 (μ 1) (μ 2) (μ 3) (μ 4) (μ 5) (μ 6) (μ 7) now thn' past kept slt held mpad mpl mat ords ordn] : List va_W))) h (perm_2 10 ([[(d0, .inr (4, [.ref (α 0), .ref (β 0), .ref sl, .ref h0, .ref p0]))], wS cI α S, wS cI β Y, [(sl, qA cQ 2 fs)], wl, [(h0, .inr (0, [.ref h1, .int (nI o), .int (nI k)]))], [(h1, qA cQ 7 fh)], wg, wPd cC p0 p1 ch pl pa po pf ps, wMd cI cZ m0 (μ 1) (μ 2) (μ 3) (μ 4) (μ 5) (μ 6) (μ 7) now thn' past kept slt held mpad mpl mat ords ordn] : List va_W) [0, 1, 2, 3, 4, 5, 6, 7, 8] [9] rfl (by decide)).symm
  refine lv_icmp_eq (tgt := 673) hx hb dL_law_461 (by decide) (fun _ => ?_) (fun hc => absurd rfl hc)
  refine W.widen (k := cells + 9) (n := slots + 340) (by omega) (by omega) ?_
  exact kk _ _ _ h ⟨α, β, μ, S, Y, sl, h0, h1, p0, p1, o, k, fs, fh, Cl, Ch, wl, wg, ch, pl, pa, po, pf, ps, now, thn', past, kept, slt, held, mpad, mpl, mat, ords, ordn, hRl, hRg, (ns_mono hN (by omega)), (hs_mono hH (by omega)), (lsl_mono hLs (by omega)), hP, rfl⟩
set_option maxHeartbeats 8000000 in
set_option maxRecDepth 100000 in
theorem law_leastRoom {p : Program} {l : Launch} {e : Env} {s : State} {m : MethodId} {args : Array Value} {below : List Frame} {meth : Method} {c : Code} {Q : State → Prop} {G : va_G} {cI cC cZ cQ : ClassId} (C : Cx p s m args c G (TQ cI cC cZ cQ []) (fun q : Nat => s.heap.size ≤ q) RL cL_law wsL_law 4) {b L : Nat} {xs : Nat → Int32} (hX : va_X b L xs s s.heap) (hbl : b < s.heap.size) (hL : L ≤ 1536) {i : Nat} (hi : i + 3 ≤ L) {cells slots : Nat} (hcc : cells + 9 ≤ 600000) (hss : slots + 340 ≤ 7302249) {B : Nat} (hB : 200000 ≤ B) (hB2 : B + 5000 < 2000000000) {d0 m0 : Nat} {w : va_W} {H : Heap} {locs : List Loc} {ls : Array Slot} (h : Hx s G (fun q : Nat => s.heap.size ≤ q) w H locs) (hw : LW cI cC cZ cQ d0 m0 B w) (hl : lv_has ls 4 [(3, .int (nI i)), (2, .ref m0), (1, .ref d0), (0, .ref b)]) (kk : ∀ (w1 : va_W) (H1 : Heap) (locs1 : List Loc), Hx s G (fun q : Nat => s.heap.size ≤ q) w1 H1 locs1 → LW cI cC cZ cQ d0 m0 (B + 5000) w1 → W p l e room_1 s m args below meth c H1 locs1 (cells + 9) (slots + 340) Q (F0 m 673 ls [])) : W p l e room_1 s m args below meth c H locs cells slots Q (F0 m 466 ls []) := by
  obtain ⟨α, β, μ, S, V, sl, h0, h1, p0, p1, o, k, fs, fh, Cl, Ch, wl, wg, ch, pl, pa, po, pf, ps, now, thn, past, kept, slt, held, mpad, mpl, mat, ords, ordn, hRl, hRg, hN, hH, hLs, hP, rfl⟩ := hw
  have hx := C.hx
  have hb := C.hb
  have hbA : ¬ (fun q : Nat => s.heap.size ≤ q) b := Nat.not_le.mpr hbl
  obtain ⟨ho, hk6⟩ := hs_b hH
  have v1 : vp_in (nI (i + 1)) L := vp_in_nI (by omega) (by omega)
  have v2 : vp_in (nI (i + 2)) L := vp_in_nI (by omega) (by omega)
  obtain ⟨X1, hX1⟩ : ∃ x : Int32, x = xs (nI (i + 1)).toNatClampNeg := ⟨_, rfl⟩
  obtain ⟨X2, hX2⟩ : ∃ x : Int32, x = xs (nI (i + 2)).toNatClampNeg := ⟨_, rfl⟩
  obtain ⟨r, Y, thn', e1, e2⟩ := l_leastRoom hB (by omega) hN V thn X1
  refine lv_aload_n hx hb dL_law_466 rfl (lv_at hl 2 rfl) ?_
  refine lv_aload_n hx hb dL_law_467 rfl (lv_at hl 3 rfl) ?_
  refine lv_iload_n hx hb dL_law_468 rfl (lv_at hl 0 rfl) ?_
  refine lv_iconst (v := 1) hx hb dL_law_469 (by decide) ?_
  refine lv_iadd hx hb dL_law_470 ?_
  rw [aI1 i]
  refine va_sld hx hb hX hbl hbA h.2.2 v1 dL_law_471 ?_
  rw [← hX1]
  replace h : Hx s G (fun q : Nat => s.heap.size ≤ q) ((catW ([[(sl, qA cQ 2 fs)], wl, [(h0, .inr (0, [.ref h1, .int (nI o), .int (nI k)]))], [(h1, qA cQ 7 fh)], wg, wPd cC p0 p1 ch pl pa po pf ps, wMd cI cZ m0 (μ 1) (μ 2) (μ 3) (μ 4) (μ 5) (μ 6) (μ 7) now thn past kept slt held mpad mpl mat ords ordn] : List va_W)) ++ (wLDt cI d0 sl h0 p0 (α 0) (α 1) (α 2) (α 3) (α 4) (α 5) (α 6) (α 7) (α 8) (β 0) (β 1) (β 2) (β 3) (β 4) (β 5) (β 6) (β 7) (β 8) (S.1) (S.2.1) (S.2.2.1) (S.2.2.2.1) (S.2.2.2.2.1) (S.2.2.2.2.2) (V.1) (V.2.1) (V.2.2.1) (V.2.2.2.1) (V.2.2.2.2.1) (V.2.2.2.2.2))) _ _ := h.perm (perm_2 10 ([[(d0, .inr (4, [.ref (α 0), .ref (β 0), .ref sl, .ref h0, .ref p0]))], wS cI α S, wS cI β V, [(sl, qA cQ 2 fs)], wl, [(h0, .inr (0, [.ref h1, .int (nI o), .int (nI k)]))], [(h1, qA cQ 7 fh)], wg, wPd cC p0 p1 ch pl pa po pf ps, wMd cI cZ m0 (μ 1) (μ 2) (μ 3) (μ 4) (μ 5) (μ 6) (μ 7) now thn past kept slt held mpad mpl mat ords ordn] : List va_W) [3, 4, 5, 6, 7, 8, 9] [0, 1, 2] rfl (by decide))
  refine r_callVY (rest := []) (ci := 4) (N := 5) (Cn := RX4) (T := TX4) C h (cwL_X4_leastRoom C.hts) (CT.toY (c_X4_leastRoom l G cI cC cZ [(cQ, .object RX2)] d0 sl h0 p0 (α 0) (α 1) (α 2) (α 3) (α 4) (α 5) (α 6) (α 7) (α 8) (β 0) (β 1) (β 2) (β 3) (β 4) (β 5) (β 6) (β 7) (β 8) S.1 S.2.1 S.2.2.1 S.2.2.2.1 S.2.2.2.2.1 S.2.2.2.2.2 V.1 V.2.1 V.2.2.1 V.2.2.2.1 V.2.2.2.2.1 V.2.2.2.2.2 X1 r (Y.1) (Y.2.1) (Y.2.2.1) (Y.2.2.2.1) (Y.2.2.2.2.1) (Y.2.2.2.2.2) e1)) rfl (List.mem_append_right _ List.mem_cons_self) rfl hl.1 rfl (Nat.le_of_ble_eq_true rfl) ⟨(by show _ ≤ 600000; omega), (by show _ ≤ 7302249; omega)⟩ dL_law_472 (fun res w1 H locs hpo h => ?_)
  obtain ⟨rfl, rfl⟩ := hpo
  replace h : Hx s G (fun q : Nat => s.heap.size ≤ q) (catW ([[(d0, .inr (4, [.ref (α 0), .ref (β 0), .ref sl, .ref h0, .ref p0]))], wS cI α S, wS cI β Y, [(sl, qA cQ 2 fs)], wl, [(h0, .inr (0, [.ref h1, .int (nI o), .int (nI k)]))], [(h1, qA cQ 7 fh)], wg, wPd cC p0 p1 ch pl pa po pf ps, wMd cI cZ m0 (μ 1) (μ 2) (μ 3) (μ 4) (μ 5) (μ 6) (μ 7) now thn past kept slt held mpad mpl mat ords ordn] : List va_W)) _ _ := Hx.perm (w := (catW ([[(sl, qA cQ 2 fs)], wl, [(h0, .inr (0, [.ref h1, .int (nI o), .int (nI k)]))], [(h1, qA cQ 7 fh)], wg, wPd cC p0 p1 ch pl pa po pf ps, wMd cI cZ m0 (μ 1) (μ 2) (μ 3) (μ 4) (μ 5) (μ 6) (μ 7) now thn past kept slt held mpad mpl mat ords ordn] : List va_W)) ++ (catW ([[(d0, .inr (4, [.ref (α 0), .ref (β 0), .ref sl, .ref h0, .ref p0]))], wS cI α S, wS cI β Y] : List va_W))) h (perm_2 10 ([[(d0, .inr (4, [.ref (α 0), .ref (β 0), .ref sl, .ref h0, .ref p0]))], wS cI α S, wS cI β Y, [(sl, qA cQ 2 fs)], wl, [(h0, .inr (0, [.ref h1, .int (nI o), .int (nI k)]))], [(h1, qA cQ 7 fh)], wg, wPd cC p0 p1 ch pl pa po pf ps, wMd cI cZ m0 (μ 1) (μ 2) (μ 3) (μ 4) (μ 5) (μ 6) (μ 7) now thn past kept slt held mpad mpl mat ords ordn] : List va_W) [3, 4, 5, 6, 7, 8, 9] [0, 1, 2] rfl (by decide)).symm
  refine lv_aload_n hx hb dL_law_475 rfl (lv_at hl 1 rfl) ?_
  refine lv_aload_n hx hb dL_law_476 rfl (lv_at hl 3 rfl) ?_
  refine lv_iload_n hx hb dL_law_477 rfl (lv_at hl 0 rfl) ?_
  refine lv_iconst (v := 1) hx hb dL_law_478 (by decide) ?_
  refine lv_iadd hx hb dL_law_479 ?_
  rw [aI1 i]
  refine va_sld hx hb hX hbl hbA h.2.2 v1 dL_law_480 ?_
  rw [← hX1]
  replace h : Hx s G (fun q : Nat => s.heap.size ≤ q) ((catW ([[(d0, .inr (4, [.ref (α 0), .ref (β 0), .ref sl, .ref h0, .ref p0]))], wS cI α S, wS cI β Y, [(sl, qA cQ 2 fs)], wl, [(h0, .inr (0, [.ref h1, .int (nI o), .int (nI k)]))], [(h1, qA cQ 7 fh)], wg, wPd cC p0 p1 ch pl pa po pf ps] : List va_W)) ++ wMd cI cZ m0 (μ 1) (μ 2) (μ 3) (μ 4) (μ 5) (μ 6) (μ 7) now thn past kept slt held mpad mpl mat ords ordn) _ _ := h.perm (perm_2 10 ([[(d0, .inr (4, [.ref (α 0), .ref (β 0), .ref sl, .ref h0, .ref p0]))], wS cI α S, wS cI β Y, [(sl, qA cQ 2 fs)], wl, [(h0, .inr (0, [.ref h1, .int (nI o), .int (nI k)]))], [(h1, qA cQ 7 fh)], wg, wPd cC p0 p1 ch pl pa po pf ps, wMd cI cZ m0 (μ 1) (μ 2) (μ 3) (μ 4) (μ 5) (μ 6) (μ 7) now thn past kept slt held mpad mpl mat ords ordn] : List va_W) [0, 1, 2, 3, 4, 5, 6, 7, 8] [9] rfl (by decide))
  refine r_callVY (rest := [.int r]) (ci := 5) (N := 11) (Cn := RX5) (T := TX5) C h (cwL_X5_leastRoom C.hts) (CT.toY (c_X5_leastRoom l G cI cC cZ [(cQ, .object RX2)] m0 (μ 1) (μ 2) (μ 3) (μ 4) (μ 5) (μ 6) (μ 7) now thn past kept slt held mpad mpl mat ords ordn X1 r thn' e2)) rfl (List.mem_append_right _ List.mem_cons_self) rfl hl.1 rfl (Nat.le_of_ble_eq_true rfl) ⟨(by show _ ≤ 600000; omega), (by show _ ≤ 7302249; omega)⟩ dL_law_481 (fun res w1 H locs hpo h => ?_)
  obtain ⟨rfl, rfl⟩ := hpo
  replace h : Hx s G (fun q : Nat => s.heap.size ≤ q) (catW ([[(d0, .inr (4, [.ref (α 0), .ref (β 0), .ref sl, .ref h0, .ref p0]))], wS cI α S, wS cI β Y, [(sl, qA cQ 2 fs)], wl, [(h0, .inr (0, [.ref h1, .int (nI o), .int (nI k)]))], [(h1, qA cQ 7 fh)], wg, wPd cC p0 p1 ch pl pa po pf ps, wMd cI cZ m0 (μ 1) (μ 2) (μ 3) (μ 4) (μ 5) (μ 6) (μ 7) now thn' past kept slt held mpad mpl mat ords ordn] : List va_W)) _ _ := Hx.perm (w := (catW ([[(d0, .inr (4, [.ref (α 0), .ref (β 0), .ref sl, .ref h0, .ref p0]))], wS cI α S, wS cI β Y, [(sl, qA cQ 2 fs)], wl, [(h0, .inr (0, [.ref h1, .int (nI o), .int (nI k)]))], [(h1, qA cQ 7 fh)], wg, wPd cC p0 p1 ch pl pa po pf ps] : List va_W)) ++ (catW ([wMd cI cZ m0 (μ 1) (μ 2) (μ 3) (μ 4) (μ 5) (μ 6) (μ 7) now thn' past kept slt held mpad mpl mat ords ordn] : List va_W))) h (perm_2 10 ([[(d0, .inr (4, [.ref (α 0), .ref (β 0), .ref sl, .ref h0, .ref p0]))], wS cI α S, wS cI β Y, [(sl, qA cQ 2 fs)], wl, [(h0, .inr (0, [.ref h1, .int (nI o), .int (nI k)]))], [(h1, qA cQ 7 fh)], wg, wPd cC p0 p1 ch pl pa po pf ps, wMd cI cZ m0 (μ 1) (μ 2) (μ 3) (μ 4) (μ 5) (μ 6) (μ 7) now thn' past kept slt held mpad mpl mat ords ordn] : List va_W) [0, 1, 2, 3, 4, 5, 6, 7, 8] [9] rfl (by decide)).symm
  refine lv_icmp_eq (tgt := 673) hx hb dL_law_484 (by decide) (fun _ => ?_) (fun hc => absurd rfl hc)
  refine W.widen (k := cells + 9) (n := slots + 340) (by omega) (by omega) ?_
  exact kk _ _ _ h ⟨α, β, μ, S, Y, sl, h0, h1, p0, p1, o, k, fs, fh, Cl, Ch, wl, wg, ch, pl, pa, po, pf, ps, now, thn', past, kept, slt, held, mpad, mpl, mat, ords, ordn, hRl, hRg, (ns_mono hN (by omega)), (hs_mono hH (by omega)), (lsl_mono hLs (by omega)), hP, rfl⟩
set_option maxHeartbeats 8000000 in
set_option maxRecDepth 100000 in
theorem law_bestOut {p : Program} {l : Launch} {e : Env} {s : State} {m : MethodId} {args : Array Value} {below : List Frame} {meth : Method} {c : Code} {Q : State → Prop} {G : va_G} {cI cC cZ cQ : ClassId} (C : Cx p s m args c G (TQ cI cC cZ cQ []) (fun q : Nat => s.heap.size ≤ q) RL cL_law wsL_law 4) {b L : Nat} {xs : Nat → Int32} (hX : va_X b L xs s s.heap) (hbl : b < s.heap.size) (hL : L ≤ 1536) {i : Nat} (hi : i + 3 ≤ L) {cells slots : Nat} (hcc : cells + 9 ≤ 600000) (hss : slots + 340 ≤ 7302249) {B : Nat} (hB : 200000 ≤ B) (hB2 : B + 5000 < 2000000000) {d0 m0 : Nat} {w : va_W} {H : Heap} {locs : List Loc} {ls : Array Slot} (h : Hx s G (fun q : Nat => s.heap.size ≤ q) w H locs) (hw : LW cI cC cZ cQ d0 m0 B w) (hl : lv_has ls 4 [(3, .int (nI i)), (2, .ref m0), (1, .ref d0), (0, .ref b)]) (kk : ∀ (w1 : va_W) (H1 : Heap) (locs1 : List Loc), Hx s G (fun q : Nat => s.heap.size ≤ q) w1 H1 locs1 → LW cI cC cZ cQ d0 m0 (B + 5000) w1 → W p l e room_1 s m args below meth c H1 locs1 (cells + 9) (slots + 340) Q (F0 m 673 ls [])) : W p l e room_1 s m args below meth c H locs cells slots Q (F0 m 489 ls []) := by
  obtain ⟨α, β, μ, S, V, sl, h0, h1, p0, p1, o, k, fs, fh, Cl, Ch, wl, wg, ch, pl, pa, po, pf, ps, now, thn, past, kept, slt, held, mpad, mpl, mat, ords, ordn, hRl, hRg, hN, hH, hLs, hP, rfl⟩ := hw
  have hx := C.hx
  have hb := C.hb
  have hbA : ¬ (fun q : Nat => s.heap.size ≤ q) b := Nat.not_le.mpr hbl
  obtain ⟨ho, hk6⟩ := hs_b hH
  have v1 : vp_in (nI (i + 1)) L := vp_in_nI (by omega) (by omega)
  have v2 : vp_in (nI (i + 2)) L := vp_in_nI (by omega) (by omega)
  obtain ⟨X1, hX1⟩ : ∃ x : Int32, x = xs (nI (i + 1)).toNatClampNeg := ⟨_, rfl⟩
  obtain ⟨X2, hX2⟩ : ∃ x : Int32, x = xs (nI (i + 2)).toNatClampNeg := ⟨_, rfl⟩
  obtain ⟨r, Y, thn', e1, e2⟩ := l_bestOut hB (by omega) hN V thn X1 X2
  refine lv_aload_n hx hb dL_law_489 rfl (lv_at hl 2 rfl) ?_
  refine lv_aload_n hx hb dL_law_490 rfl (lv_at hl 3 rfl) ?_
  refine lv_iload_n hx hb dL_law_491 rfl (lv_at hl 0 rfl) ?_
  refine lv_iconst (v := 1) hx hb dL_law_492 (by decide) ?_
  refine lv_iadd hx hb dL_law_493 ?_
  rw [aI1 i]
  refine va_sld hx hb hX hbl hbA h.2.2 v1 dL_law_494 ?_
  rw [← hX1]
  refine lv_aload_n hx hb dL_law_495 rfl (lv_at hl 3 rfl) ?_
  refine lv_iload_n hx hb dL_law_496 rfl (lv_at hl 0 rfl) ?_
  refine lv_iconst (v := 2) hx hb dL_law_497 (by decide) ?_
  refine lv_iadd hx hb dL_law_498 ?_
  rw [aI2 i]
  refine va_sld hx hb hX hbl hbA h.2.2 v2 dL_law_499 ?_
  rw [← hX2]
  replace h : Hx s G (fun q : Nat => s.heap.size ≤ q) ((catW ([[(sl, qA cQ 2 fs)], wl, [(h0, .inr (0, [.ref h1, .int (nI o), .int (nI k)]))], [(h1, qA cQ 7 fh)], wg, wPd cC p0 p1 ch pl pa po pf ps, wMd cI cZ m0 (μ 1) (μ 2) (μ 3) (μ 4) (μ 5) (μ 6) (μ 7) now thn past kept slt held mpad mpl mat ords ordn] : List va_W)) ++ (wLDt cI d0 sl h0 p0 (α 0) (α 1) (α 2) (α 3) (α 4) (α 5) (α 6) (α 7) (α 8) (β 0) (β 1) (β 2) (β 3) (β 4) (β 5) (β 6) (β 7) (β 8) (S.1) (S.2.1) (S.2.2.1) (S.2.2.2.1) (S.2.2.2.2.1) (S.2.2.2.2.2) (V.1) (V.2.1) (V.2.2.1) (V.2.2.2.1) (V.2.2.2.2.1) (V.2.2.2.2.2))) _ _ := h.perm (perm_2 10 ([[(d0, .inr (4, [.ref (α 0), .ref (β 0), .ref sl, .ref h0, .ref p0]))], wS cI α S, wS cI β V, [(sl, qA cQ 2 fs)], wl, [(h0, .inr (0, [.ref h1, .int (nI o), .int (nI k)]))], [(h1, qA cQ 7 fh)], wg, wPd cC p0 p1 ch pl pa po pf ps, wMd cI cZ m0 (μ 1) (μ 2) (μ 3) (μ 4) (μ 5) (μ 6) (μ 7) now thn past kept slt held mpad mpl mat ords ordn] : List va_W) [3, 4, 5, 6, 7, 8, 9] [0, 1, 2] rfl (by decide))
  refine r_callVY (rest := []) (ci := 4) (N := 5) (Cn := RX4) (T := TX4) C h (cwL_X4_bestOut C.hts) (CT.toY (c_X4_bestOut l G cI cC cZ [(cQ, .object RX2)] d0 sl h0 p0 (α 0) (α 1) (α 2) (α 3) (α 4) (α 5) (α 6) (α 7) (α 8) (β 0) (β 1) (β 2) (β 3) (β 4) (β 5) (β 6) (β 7) (β 8) S.1 S.2.1 S.2.2.1 S.2.2.2.1 S.2.2.2.2.1 S.2.2.2.2.2 V.1 V.2.1 V.2.2.1 V.2.2.2.1 V.2.2.2.2.1 V.2.2.2.2.2 X1 X2 r (Y.1) (Y.2.1) (Y.2.2.1) (Y.2.2.2.1) (Y.2.2.2.2.1) (Y.2.2.2.2.2) e1)) rfl (List.mem_append_right _ List.mem_cons_self) rfl hl.1 rfl (Nat.le_of_ble_eq_true rfl) ⟨(by show _ ≤ 600000; omega), (by show _ ≤ 7302249; omega)⟩ dL_law_500 (fun res w1 H locs hpo h => ?_)
  obtain ⟨rfl, rfl⟩ := hpo
  replace h : Hx s G (fun q : Nat => s.heap.size ≤ q) (catW ([[(d0, .inr (4, [.ref (α 0), .ref (β 0), .ref sl, .ref h0, .ref p0]))], wS cI α S, wS cI β Y, [(sl, qA cQ 2 fs)], wl, [(h0, .inr (0, [.ref h1, .int (nI o), .int (nI k)]))], [(h1, qA cQ 7 fh)], wg, wPd cC p0 p1 ch pl pa po pf ps, wMd cI cZ m0 (μ 1) (μ 2) (μ 3) (μ 4) (μ 5) (μ 6) (μ 7) now thn past kept slt held mpad mpl mat ords ordn] : List va_W)) _ _ := Hx.perm (w := (catW ([[(sl, qA cQ 2 fs)], wl, [(h0, .inr (0, [.ref h1, .int (nI o), .int (nI k)]))], [(h1, qA cQ 7 fh)], wg, wPd cC p0 p1 ch pl pa po pf ps, wMd cI cZ m0 (μ 1) (μ 2) (μ 3) (μ 4) (μ 5) (μ 6) (μ 7) now thn past kept slt held mpad mpl mat ords ordn] : List va_W)) ++ (catW ([[(d0, .inr (4, [.ref (α 0), .ref (β 0), .ref sl, .ref h0, .ref p0]))], wS cI α S, wS cI β Y] : List va_W))) h (perm_2 10 ([[(d0, .inr (4, [.ref (α 0), .ref (β 0), .ref sl, .ref h0, .ref p0]))], wS cI α S, wS cI β Y, [(sl, qA cQ 2 fs)], wl, [(h0, .inr (0, [.ref h1, .int (nI o), .int (nI k)]))], [(h1, qA cQ 7 fh)], wg, wPd cC p0 p1 ch pl pa po pf ps, wMd cI cZ m0 (μ 1) (μ 2) (μ 3) (μ 4) (μ 5) (μ 6) (μ 7) now thn past kept slt held mpad mpl mat ords ordn] : List va_W) [3, 4, 5, 6, 7, 8, 9] [0, 1, 2] rfl (by decide)).symm
  refine lv_aload_n hx hb dL_law_503 rfl (lv_at hl 1 rfl) ?_
  refine lv_aload_n hx hb dL_law_504 rfl (lv_at hl 3 rfl) ?_
  refine lv_iload_n hx hb dL_law_505 rfl (lv_at hl 0 rfl) ?_
  refine lv_iconst (v := 1) hx hb dL_law_506 (by decide) ?_
  refine lv_iadd hx hb dL_law_507 ?_
  rw [aI1 i]
  refine va_sld hx hb hX hbl hbA h.2.2 v1 dL_law_508 ?_
  rw [← hX1]
  refine lv_aload_n hx hb dL_law_509 rfl (lv_at hl 3 rfl) ?_
  refine lv_iload_n hx hb dL_law_510 rfl (lv_at hl 0 rfl) ?_
  refine lv_iconst (v := 2) hx hb dL_law_511 (by decide) ?_
  refine lv_iadd hx hb dL_law_512 ?_
  rw [aI2 i]
  refine va_sld hx hb hX hbl hbA h.2.2 v2 dL_law_513 ?_
  rw [← hX2]
  replace h : Hx s G (fun q : Nat => s.heap.size ≤ q) ((catW ([[(d0, .inr (4, [.ref (α 0), .ref (β 0), .ref sl, .ref h0, .ref p0]))], wS cI α S, wS cI β Y, [(sl, qA cQ 2 fs)], wl, [(h0, .inr (0, [.ref h1, .int (nI o), .int (nI k)]))], [(h1, qA cQ 7 fh)], wg, wPd cC p0 p1 ch pl pa po pf ps] : List va_W)) ++ wMd cI cZ m0 (μ 1) (μ 2) (μ 3) (μ 4) (μ 5) (μ 6) (μ 7) now thn past kept slt held mpad mpl mat ords ordn) _ _ := h.perm (perm_2 10 ([[(d0, .inr (4, [.ref (α 0), .ref (β 0), .ref sl, .ref h0, .ref p0]))], wS cI α S, wS cI β Y, [(sl, qA cQ 2 fs)], wl, [(h0, .inr (0, [.ref h1, .int (nI o), .int (nI k)]))], [(h1, qA cQ 7 fh)], wg, wPd cC p0 p1 ch pl pa po pf ps, wMd cI cZ m0 (μ 1) (μ 2) (μ 3) (μ 4) (μ 5) (μ 6) (μ 7) now thn past kept slt held mpad mpl mat ords ordn] : List va_W) [0, 1, 2, 3, 4, 5, 6, 7, 8] [9] rfl (by decide))
  refine r_callVY (rest := [.int r]) (ci := 5) (N := 11) (Cn := RX5) (T := TX5) C h (cwL_X5_bestOut C.hts) (CT.toY (c_X5_bestOut l G cI cC cZ [(cQ, .object RX2)] m0 (μ 1) (μ 2) (μ 3) (μ 4) (μ 5) (μ 6) (μ 7) now thn past kept slt held mpad mpl mat ords ordn X1 X2 r thn' e2)) rfl (List.mem_append_right _ List.mem_cons_self) rfl hl.1 rfl (Nat.le_of_ble_eq_true rfl) ⟨(by show _ ≤ 600000; omega), (by show _ ≤ 7302249; omega)⟩ dL_law_514 (fun res w1 H locs hpo h => ?_)
  obtain ⟨rfl, rfl⟩ := hpo
  replace h : Hx s G (fun q : Nat => s.heap.size ≤ q) (catW ([[(d0, .inr (4, [.ref (α 0), .ref (β 0), .ref sl, .ref h0, .ref p0]))], wS cI α S, wS cI β Y, [(sl, qA cQ 2 fs)], wl, [(h0, .inr (0, [.ref h1, .int (nI o), .int (nI k)]))], [(h1, qA cQ 7 fh)], wg, wPd cC p0 p1 ch pl pa po pf ps, wMd cI cZ m0 (μ 1) (μ 2) (μ 3) (μ 4) (μ 5) (μ 6) (μ 7) now thn' past kept slt held mpad mpl mat ords ordn] : List va_W)) _ _ := Hx.perm (w := (catW ([[(d0, .inr (4, [.ref (α 0), .ref (β 0), .ref sl, .ref h0, .ref p0]))], wS cI α S, wS cI β Y, [(sl, qA cQ 2 fs)], wl, [(h0, .inr (0, [.ref h1, .int (nI o), .int (nI k)]))], [(h1, qA cQ 7 fh)], wg, wPd cC p0 p1 ch pl pa po pf ps] : List va_W)) ++ (catW ([wMd cI cZ m0 (μ 1) (μ 2) (μ 3) (μ 4) (μ 5) (μ 6) (μ 7) now thn' past kept slt held mpad mpl mat ords ordn] : List va_W))) h (perm_2 10 ([[(d0, .inr (4, [.ref (α 0), .ref (β 0), .ref sl, .ref h0, .ref p0]))], wS cI α S, wS cI β Y, [(sl, qA cQ 2 fs)], wl, [(h0, .inr (0, [.ref h1, .int (nI o), .int (nI k)]))], [(h1, qA cQ 7 fh)], wg, wPd cC p0 p1 ch pl pa po pf ps, wMd cI cZ m0 (μ 1) (μ 2) (μ 3) (μ 4) (μ 5) (μ 6) (μ 7) now thn' past kept slt held mpad mpl mat ords ordn] : List va_W) [0, 1, 2, 3, 4, 5, 6, 7, 8] [9] rfl (by decide)).symm
  refine lv_icmp_eq (tgt := 673) hx hb dL_law_517 (by decide) (fun _ => ?_) (fun hc => absurd rfl hc)
  refine W.widen (k := cells + 9) (n := slots + 340) (by omega) (by omega) ?_
  exact kk _ _ _ h ⟨α, β, μ, S, Y, sl, h0, h1, p0, p1, o, k, fs, fh, Cl, Ch, wl, wg, ch, pl, pa, po, pf, ps, now, thn', past, kept, slt, held, mpad, mpl, mat, ords, ordn, hRl, hRg, (ns_mono hN (by omega)), (hs_mono hH (by omega)), (lsl_mono hLs (by omega)), hP, rfl⟩
