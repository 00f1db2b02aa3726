/-! ===== the law: reads ===== -/
set_option maxHeartbeats 8000000 in
set_option maxRecDepth 100000 in
theorem law_waiting {p : Program} {l : Launch} {e : Env} {s : State} {m : MethodId} {args : Array Value} {below : List Frame} {meth : Method} {c : Code} {Q : State → Prop} {G : va_G} {cI cC cZ cQ : ClassId} (C : Cx p s m args c G (TQ cI cC cZ cQ []) (fun q : Nat => s.heap.size ≤ q) RL cL_law wsL_law 4) {b L : Nat} {xs : Nat → Int32} (hX : va_X b L xs s s.heap) (hbl : b < s.heap.size) (hL : L ≤ 1536) {i : Nat} (hi : i + 3 ≤ L) {cells slots : Nat} (hcc : cells + 9 ≤ 600000) (hss : slots + 340 ≤ 7302249) {B : Nat} (hB : 200000 ≤ B) (hB2 : B + 5000 < 2000000000) {d0 m0 : Nat} {w : va_W} {H : Heap} {locs : List Loc} {ls : Array Slot} (h : Hx s G (fun q : Nat => s.heap.size ≤ q) w H locs) (hw : LW cI cC cZ cQ d0 m0 B w) (hl : lv_has ls 4 [(3, .int (nI i)), (2, .ref m0), (1, .ref d0), (0, .ref b)]) (kk : ∀ (w1 : va_W) (H1 : Heap) (locs1 : List Loc), Hx s G (fun q : Nat => s.heap.size ≤ q) w1 H1 locs1 → LW cI cC cZ cQ d0 m0 (B + 5000) w1 → W p l e room_1 s m args below meth c H1 locs1 (cells + 9) (slots + 340) Q (F0 m 673 ls [])) : W p l e room_1 s m args below meth c H locs cells slots Q (F0 m 271 ls []) := by
  obtain ⟨α, β, μ, S, V, sl, h0, h1, p0, p1, o, k, fs, fh, Cl, Ch, wl, wg, ch, pl, pa, po, pf, ps, now, thn, past, kept, slt, held, mpad, mpl, mat, ords, ordn, hRl, hRg, hN, hH, hLs, hP, rfl⟩ := hw
  have hx := C.hx
  have hb := C.hb
  have hbA : ¬ (fun q : Nat => s.heap.size ≤ q) b := Nat.not_le.mpr hbl
  obtain ⟨ho, hk6⟩ := hs_b hH
  have v1 : vp_in (nI (i + 1)) L := vp_in_nI (by omega) (by omega)
  have v2 : vp_in (nI (i + 2)) L := vp_in_nI (by omega) (by omega)
  obtain ⟨X1, hX1⟩ : ∃ x : Int32, x = xs (nI (i + 1)).toNatClampNeg := ⟨_, rfl⟩
  obtain ⟨X2, hX2⟩ : ∃ x : Int32, x = xs (nI (i + 2)).toNatClampNeg := ⟨_, rfl⟩
  obtain ⟨r, e1, e2⟩ := l_waiting hN X1 X2
  refine lv_aload_n hx hb dL_law_271 rfl (lv_at hl 2 rfl) ?_
  refine lv_aload_n hx hb dL_law_272 rfl (lv_at hl 3 rfl) ?_
  refine lv_iload_n hx hb dL_law_273 rfl (lv_at hl 0 rfl) ?_
  refine lv_iconst (v := 1) hx hb dL_law_274 (by decide) ?_
  refine lv_iadd hx hb dL_law_275 ?_
  rw [aI1 i]
  refine va_sld hx hb hX hbl hbA h.2.2 v1 dL_law_276 ?_
  rw [← hX1]
  refine lv_aload_n hx hb dL_law_277 rfl (lv_at hl 3 rfl) ?_
  refine lv_iload_n hx hb dL_law_278 rfl (lv_at hl 0 rfl) ?_
  refine lv_iconst (v := 2) hx hb dL_law_279 (by decide) ?_
  refine lv_iadd hx hb dL_law_280 ?_
  rw [aI2 i]
  refine va_sld hx hb hX hbl hbA h.2.2 v2 dL_law_281 ?_
  rw [← hX2]
  replace h : Hx s G (fun q : Nat => s.heap.size ≤ q) ((catW ([wS cI β V, [(sl, qA cQ 2 fs)], wl, [(h0, .inr (0, [.ref h1, .int (nI o), .int (nI k)]))], [(h1, qA cQ 7 fh)], wg, wPd cC p0 p1 ch pl pa po pf ps, wMd cI cZ m0 (μ 1) (μ 2) (μ 3) (μ 4) (μ 5) (μ 6) (μ 7) now thn past kept slt held mpad mpl mat ords ordn] : List va_W)) ++ (wLDs cI d0 (β 0) sl h0 p0 (α 0) (α 1) (α 2) (α 3) (α 4) (α 5) (α 6) (α 7) (α 8) (S.1) (S.2.1) (S.2.2.1) (S.2.2.2.1) (S.2.2.2.2.1) (S.2.2.2.2.2))) _ _ := h.perm (perm_2 10 ([[(d0, .inr (4, [.ref (α 0), .ref (β 0), .ref sl, .ref h0, .ref p0]))], wS cI α S, wS cI β V, [(sl, qA cQ 2 fs)], wl, [(h0, .inr (0, [.ref h1, .int (nI o), .int (nI k)]))], [(h1, qA cQ 7 fh)], wg, wPd cC p0 p1 ch pl pa po pf ps, wMd cI cZ m0 (μ 1) (μ 2) (μ 3) (μ 4) (μ 5) (μ 6) (μ 7) now thn past kept slt held mpad mpl mat ords ordn] : List va_W) [2, 3, 4, 5, 6, 7, 8, 9] [0, 1] rfl (by decide))
  refine r_callVY (rest := []) (ci := 4) (N := 5) (Cn := RX4) (T := TX4) C h (cwL_X4_waiting C.hts) (CT.toY (c_X4_waiting l G cI cC cZ [(cQ, .object RX2)] d0 (β 0) sl h0 p0 (α 0) (α 1) (α 2) (α 3) (α 4) (α 5) (α 6) (α 7) (α 8) S.1 S.2.1 S.2.2.1 S.2.2.2.1 S.2.2.2.2.1 S.2.2.2.2.2 X1 X2 r e1)) rfl (List.mem_append_right _ List.mem_cons_self) rfl hl.1 rfl (Nat.le_of_ble_eq_true rfl) ⟨(by show _ ≤ 600000; omega), (by show _ ≤ 7302249; omega)⟩ dL_law_282 (fun res w1 H locs hpo h => ?_)
  obtain ⟨rfl, rfl⟩ := hpo
  replace h : Hx s G (fun q : Nat => s.heap.size ≤ q) (catW ([[(d0, .inr (4, [.ref (α 0), .ref (β 0), .ref sl, .ref h0, .ref p0]))], wS cI α S, wS cI β V, [(sl, qA cQ 2 fs)], wl, [(h0, .inr (0, [.ref h1, .int (nI o), .int (nI k)]))], [(h1, qA cQ 7 fh)], wg, wPd cC p0 p1 ch pl pa po pf ps, wMd cI cZ m0 (μ 1) (μ 2) (μ 3) (μ 4) (μ 5) (μ 6) (μ 7) now thn past kept slt held mpad mpl mat ords ordn] : List va_W)) _ _ := Hx.perm (w := (catW ([wS cI β V, [(sl, qA cQ 2 fs)], wl, [(h0, .inr (0, [.ref h1, .int (nI o), .int (nI k)]))], [(h1, qA cQ 7 fh)], wg, wPd cC p0 p1 ch pl pa po pf ps, wMd cI cZ m0 (μ 1) (μ 2) (μ 3) (μ 4) (μ 5) (μ 6) (μ 7) now thn past kept slt held mpad mpl mat ords ordn] : List va_W)) ++ (catW ([[(d0, .inr (4, [.ref (α 0), .ref (β 0), .ref sl, .ref h0, .ref p0]))], wS cI α S] : List va_W))) h (perm_2 10 ([[(d0, .inr (4, [.ref (α 0), .ref (β 0), .ref sl, .ref h0, .ref p0]))], wS cI α S, wS cI β V, [(sl, qA cQ 2 fs)], wl, [(h0, .inr (0, [.ref h1, .int (nI o), .int (nI k)]))], [(h1, qA cQ 7 fh)], wg, wPd cC p0 p1 ch pl pa po pf ps, wMd cI cZ m0 (μ 1) (μ 2) (μ 3) (μ 4) (μ 5) (μ 6) (μ 7) now thn past kept slt held mpad mpl mat ords ordn] : List va_W) [2, 3, 4, 5, 6, 7, 8, 9] [0, 1] rfl (by decide)).symm
  refine lv_aload_n hx hb dL_law_285 rfl (lv_at hl 1 rfl) ?_
  refine lv_aload_n hx hb dL_law_286 rfl (lv_at hl 3 rfl) ?_
  refine lv_iload_n hx hb dL_law_287 rfl (lv_at hl 0 rfl) ?_
  refine lv_iconst (v := 1) hx hb dL_law_288 (by decide) ?_
  refine lv_iadd hx hb dL_law_289 ?_
  rw [aI1 i]
  refine va_sld hx hb hX hbl hbA h.2.2 v1 dL_law_290 ?_
  rw [← hX1]
  refine lv_aload_n hx hb dL_law_291 rfl (lv_at hl 3 rfl) ?_
  refine lv_iload_n hx hb dL_law_292 rfl (lv_at hl 0 rfl) ?_
  refine lv_iconst (v := 2) hx hb dL_law_293 (by decide) ?_
  refine lv_iadd hx hb dL_law_294 ?_
  rw [aI2 i]
  refine va_sld hx hb hX hbl hbA h.2.2 v2 dL_law_295 ?_
  rw [← hX2]
  replace h : Hx s G (fun q : Nat => s.heap.size ≤ q) ((catW ([[(d0, .inr (4, [.ref (α 0), .ref (β 0), .ref sl, .ref h0, .ref p0]))], wS cI α S, wS cI β V, [(sl, qA cQ 2 fs)], wl, [(h0, .inr (0, [.ref h1, .int (nI o), .int (nI k)]))], [(h1, qA cQ 7 fh)], wg, wPd cC p0 p1 ch pl pa po pf ps] : List va_W)) ++ wMd cI cZ m0 (μ 1) (μ 2) (μ 3) (μ 4) (μ 5) (μ 6) (μ 7) now thn past kept slt held mpad mpl mat ords ordn) _ _ := h.perm (perm_2 10 ([[(d0, .inr (4, [.ref (α 0), .ref (β 0), .ref sl, .ref h0, .ref p0]))], wS cI α S, wS cI β V, [(sl, qA cQ 2 fs)], wl, [(h0, .inr (0, [.ref h1, .int (nI o), .int (nI k)]))], [(h1, qA cQ 7 fh)], wg, wPd cC p0 p1 ch pl pa po pf ps, wMd cI cZ m0 (μ 1) (μ 2) (μ 3) (μ 4) (μ 5) (μ 6) (μ 7) now thn past kept slt held mpad mpl mat ords ordn] : List va_W) [0, 1, 2, 3, 4, 5, 6, 7, 8] [9] rfl (by decide))
  refine r_callVY (rest := [.int r]) (ci := 5) (N := 11) (Cn := RX5) (T := TX5) C h (cwL_X5_waiting C.hts) (CT.toY (c_X5_waiting l G cI cC cZ [(cQ, .object RX2)] m0 (μ 1) (μ 2) (μ 3) (μ 4) (μ 5) (μ 6) (μ 7) now thn past kept slt held mpad mpl mat ords ordn X1 X2 r e2)) rfl (List.mem_append_right _ List.mem_cons_self) rfl hl.1 rfl (Nat.le_of_ble_eq_true rfl) ⟨(by show _ ≤ 600000; omega), (by show _ ≤ 7302249; omega)⟩ dL_law_296 (fun res w1 H locs hpo h => ?_)
  obtain ⟨rfl, rfl⟩ := hpo
  replace h : Hx s G (fun q : Nat => s.heap.size ≤ q) (catW ([[(d0, .inr (4, [.ref (α 0), .ref (β 0), .ref sl, .ref h0, .ref p0]))], wS cI α S, wS cI β V, [(sl, qA cQ 2 fs)], wl, [(h0, .inr (0, [.ref h1, .int (nI o), .int (nI k)]))], [(h1, qA cQ 7 fh)], wg, wPd cC p0 p1 ch pl pa po pf ps, wMd cI cZ m0 (μ 1) (μ 2) (μ 3) (μ 4) (μ 5) (μ 6) (μ 7) now thn past kept slt held mpad mpl mat ords ordn] : List va_W)) _ _ := Hx.perm (w := (catW ([[(d0, .inr (4, [.ref (α 0), .ref (β 0), .ref sl, .ref h0, .ref p0]))], wS cI α S, wS cI β V, [(sl, qA cQ 2 fs)], wl, [(h0, .inr (0, [.ref h1, .int (nI o), .int (nI k)]))], [(h1, qA cQ 7 fh)], wg, wPd cC p0 p1 ch pl pa po pf ps] : List va_W)) ++ (catW ([wMd cI cZ m0 (μ 1) (μ 2) (μ 3) (μ 4) (μ 5) (μ 6) (μ 7) now thn past kept slt held mpad mpl mat ords ordn] : List va_W))) h (perm_2 10 ([[(d0, .inr (4, [.ref (α 0), .ref (β 0), .ref sl, .ref h0, .ref p0]))], wS cI α S, wS cI β V, [(sl, qA cQ 2 fs)], wl, [(h0, .inr (0, [.ref h1, .int (nI o), .int (nI k)]))], [(h1, qA cQ 7 fh)], wg, wPd cC p0 p1 ch pl pa po pf ps, wMd cI cZ m0 (μ 1) (μ 2) (μ 3) (μ 4) (μ 5) (μ 6) (μ 7) now thn past kept slt held mpad mpl mat ords ordn] : List va_W) [0, 1, 2, 3, 4, 5, 6, 7, 8] [9] rfl (by decide)).symm
  refine lv_icmp_eq (tgt := 673) hx hb dL_law_299 (by decide) (fun _ => ?_) (fun hc => absurd rfl hc)
  refine W.widen (k := cells + 9) (n := slots + 340) (by omega) (by omega) ?_
  exact kk _ _ _ h ⟨α, β, μ, S, V, sl, h0, h1, p0, p1, o, k, fs, fh, Cl, Ch, wl, wg, ch, pl, pa, po, pf, ps, now, thn, past, kept, slt, held, mpad, mpl, mat, ords, ordn, hRl, hRg, (ns_mono hN (by omega)), (hs_mono hH (by omega)), (lsl_mono hLs (by omega)), hP, rfl⟩
set_option maxHeartbeats 8000000 in
set_option maxRecDepth 100000 in
theorem law_row {p : Program} {l : Launch} {e : Env} {s : State} {m : MethodId} {args : Array Value} {below : List Frame} {meth : Method} {c : Code} {Q : State → Prop} {G : va_G} {cI cC cZ cQ : ClassId} (C : Cx p s m args c G (TQ cI cC cZ cQ []) (fun q : Nat => s.heap.size ≤ q) RL cL_law wsL_law 4) {b L : Nat} {xs : Nat → Int32} (hX : va_X b L xs s s.heap) (hbl : b < s.heap.size) (hL : L ≤ 1536) {i : Nat} (hi : i + 3 ≤ L) {cells slots : Nat} (hcc : cells + 9 ≤ 600000) (hss : slots + 340 ≤ 7302249) {B : Nat} (hB : 200000 ≤ B) (hB2 : B + 5000 < 2000000000) {d0 m0 : Nat} {w : va_W} {H : Heap} {locs : List Loc} {ls : Array Slot} (h : Hx s G (fun q : Nat => s.heap.size ≤ q) w H locs) (hw : LW cI cC cZ cQ d0 m0 B w) (hl : lv_has ls 4 [(3, .int (nI i)), (2, .ref m0), (1, .ref d0), (0, .ref b)]) (kk : ∀ (w1 : va_W) (H1 : Heap) (locs1 : List Loc), Hx s G (fun q : Nat => s.heap.size ≤ q) w1 H1 locs1 → LW cI cC cZ cQ d0 m0 (B + 5000) w1 → W p l e room_1 s m args below meth c H1 locs1 (cells + 9) (slots + 340) Q (F0 m 673 ls [])) : W p l e room_1 s m args below meth c H locs cells slots Q (F0 m 304 ls []) := by
  obtain ⟨α, β, μ, S, V, sl, h0, h1, p0, p1, o, k, fs, fh, Cl, Ch, wl, wg, ch, pl, pa, po, pf, ps, now, thn, past, kept, slt, held, mpad, mpl, mat, ords, ordn, hRl, hRg, hN, hH, hLs, hP, rfl⟩ := hw
  have hx := C.hx
  have hb := C.hb
  have hbA : ¬ (fun q : Nat => s.heap.size ≤ q) b := Nat.not_le.mpr hbl
  obtain ⟨ho, hk6⟩ := hs_b hH
  have v1 : vp_in (nI (i + 1)) L := vp_in_nI (by omega) (by omega)
  have v2 : vp_in (nI (i + 2)) L := vp_in_nI (by omega) (by omega)
  obtain ⟨X1, hX1⟩ : ∃ x : Int32, x = xs (nI (i + 1)).toNatClampNeg := ⟨_, rfl⟩
  obtain ⟨X2, hX2⟩ : ∃ x : Int32, x = xs (nI (i + 2)).toNatClampNeg := ⟨_, rfl⟩
  obtain ⟨r, e1, e2⟩ := l_row hN X1 X2
  refine lv_aload_n hx hb dL_law_304 rfl (lv_at hl 2 rfl) ?_
  refine lv_aload_n hx hb dL_law_305 rfl (lv_at hl 3 rfl) ?_
  refine lv_iload_n hx hb dL_law_306 rfl (lv_at hl 0 rfl) ?_
  refine lv_iconst (v := 1) hx hb dL_law_307 (by decide) ?_
  refine lv_iadd hx hb dL_law_308 ?_
  rw [aI1 i]
  refine va_sld hx hb hX hbl hbA h.2.2 v1 dL_law_309 ?_
  rw [← hX1]
  refine lv_aload_n hx hb dL_law_310 rfl (lv_at hl 3 rfl) ?_
  refine lv_iload_n hx hb dL_law_311 rfl (lv_at hl 0 rfl) ?_
  refine lv_iconst (v := 2) hx hb dL_law_312 (by decide) ?_
  refine lv_iadd hx hb dL_law_313 ?_
  rw [aI2 i]
  refine va_sld hx hb hX hbl hbA h.2.2 v2 dL_law_314 ?_
  rw [← hX2]
  replace h : Hx s G (fun q : Nat => s.heap.size ≤ q) ((catW ([wS cI β V, [(sl, qA cQ 2 fs)], wl, [(h0, .inr (0, [.ref h1, .int (nI o), .int (nI k)]))], [(h1, qA cQ 7 fh)], wg, wPd cC p0 p1 ch pl pa po pf ps, wMd cI cZ m0 (μ 1) (μ 2) (μ 3) (μ 4) (μ 5) (μ 6) (μ 7) now thn past kept slt held mpad mpl mat ords ordn] : List va_W)) ++ (wLDs cI d0 (β 0) sl h0 p0 (α 0) (α 1) (α 2) (α 3) (α 4) (α 5) (α 6) (α 7) (α 8) (S.1) (S.2.1) (S.2.2.1) (S.2.2.2.1) (S.2.2.2.2.1) (S.2.2.2.2.2))) _ _ := h.perm (perm_2 10 ([[(d0, .inr (4, [.ref (α 0), .ref (β 0), .ref sl, .ref h0, .ref p0]))], wS cI α S, wS cI β V, [(sl, qA cQ 2 fs)], wl, [(h0, .inr (0, [.ref h1, .int (nI o), .int (nI k)]))], [(h1, qA cQ 7 fh)], wg, wPd cC p0 p1 ch pl pa po pf ps, wMd cI cZ m0 (μ 1) (μ 2) (μ 3) (μ 4) (μ 5) (μ 6) (μ 7) now thn past kept slt held mpad mpl mat ords ordn] : List va_W) [2, 3, 4, 5, 6, 7, 8, 9] [0, 1] rfl (by decide))
  refine r_callVY (rest := []) (ci := 4) (N := 5) (Cn := RX4) (T := TX4) C h (cwL_X4_row C.hts) (CT.toY (c_X4_row l G cI cC cZ [(cQ, .object RX2)] d0 (β 0) sl h0 p0 (α 0) (α 1) (α 2) (α 3) (α 4) (α 5) (α 6) (α 7) (α 8) S.1 S.2.1 S.2.2.1 S.2.2.2.1 S.2.2.2.2.1 S.2.2.2.2.2 X1 X2 r e1)) rfl (List.mem_append_right _ List.mem_cons_self) rfl hl.1 rfl (Nat.le_of_ble_eq_true rfl) ⟨(by show _ ≤ 600000; omega), (by show _ ≤ 7302249; omega)⟩ dL_law_315 (fun res w1 H locs hpo h => ?_)
  obtain ⟨rfl, rfl⟩ := hpo
  replace h : Hx s G (fun q : Nat => s.heap.size ≤ q) (catW ([[(d0, .inr (4, [.ref (α 0), .ref (β 0), .ref sl, .ref h0, .ref p0]))], wS cI α S, wS cI β V, [(sl, qA cQ 2 fs)], wl, [(h0, .inr (0, [.ref h1, .int (nI o), .int (nI k)]))], [(h1, qA cQ 7 fh)], wg, wPd cC p0 p1 ch pl pa po pf ps, wMd cI cZ m0 (μ 1) (μ 2) (μ 3) (μ 4) (μ 5) (μ 6) (μ 7) now thn past kept slt held mpad mpl mat ords ordn] : List va_W)) _ _ := Hx.perm (w := (catW ([wS cI β V, [(sl, qA cQ 2 fs)], wl, [(h0, .inr (0, [.ref h1, .int (nI o), .int (nI k)]))], [(h1, qA cQ 7 fh)], wg, wPd cC p0 p1 ch pl pa po pf ps, wMd cI cZ m0 (μ 1) (μ 2) (μ 3) (μ 4) (μ 5) (μ 6) (μ 7) now thn past kept slt held mpad mpl mat ords ordn] : List va_W)) ++ (catW ([[(d0, .inr (4, [.ref (α 0), .ref (β 0), .ref sl, .ref h0, .ref p0]))], wS cI α S] : List va_W))) h (perm_2 10 ([[(d0, .inr (4, [.ref (α 0), .ref (β 0), .ref sl, .ref h0, .ref p0]))], wS cI α S, wS cI β V, [(sl, qA cQ 2 fs)], wl, [(h0, .inr (0, [.ref h1, .int (nI o), .int (nI k)]))], [(h1, qA cQ 7 fh)], wg, wPd cC p0 p1 ch pl pa po pf ps, wMd cI cZ m0 (μ 1) (μ 2) (μ 3) (μ 4) (μ 5) (μ 6) (μ 7) now thn past kept slt held mpad mpl mat ords ordn] : List va_W) [2, 3, 4, 5, 6, 7, 8, 9] [0, 1] rfl (by decide)).symm
  refine lv_aload_n hx hb dL_law_318 rfl (lv_at hl 1 rfl) ?_
  refine lv_aload_n hx hb dL_law_319 rfl (lv_at hl 3 rfl) ?_
  refine lv_iload_n hx hb dL_law_320 rfl (lv_at hl 0 rfl) ?_
  refine lv_iconst (v := 1) hx hb dL_law_321 (by decide) ?_
  refine lv_iadd hx hb dL_law_322 ?_
  rw [aI1 i]
  refine va_sld hx hb hX hbl hbA h.2.2 v1 dL_law_323 ?_
  rw [← hX1]
  refine lv_aload_n hx hb dL_law_324 rfl (lv_at hl 3 rfl) ?_
  refine lv_iload_n hx hb dL_law_325 rfl (lv_at hl 0 rfl) ?_
  refine lv_iconst (v := 2) hx hb dL_law_326 (by decide) ?_
  refine lv_iadd hx hb dL_law_327 ?_
  rw [aI2 i]
  refine va_sld hx hb hX hbl hbA h.2.2 v2 dL_law_328 ?_
  rw [← hX2]
  replace h : Hx s G (fun q : Nat => s.heap.size ≤ q) ((catW ([[(d0, .inr (4, [.ref (α 0), .ref (β 0), .ref sl, .ref h0, .ref p0]))], wS cI α S, wS cI β V, [(sl, qA cQ 2 fs)], wl, [(h0, .inr (0, [.ref h1, .int (nI o), .int (nI k)]))], [(h1, qA cQ 7 fh)], wg, wPd cC p0 p1 ch pl pa po pf ps] : List va_W)) ++ wMd cI cZ m0 (μ 1) (μ 2) (μ 3) (μ 4) (μ 5) (μ 6) (μ 7) now thn past kept slt held mpad mpl mat ords ordn) _ _ := h.perm (perm_2 10 ([[(d0, .inr (4, [.ref (α 0), .ref (β 0), .ref sl, .ref h0, .ref p0]))], wS cI α S, wS cI β V, [(sl, qA cQ 2 fs)], wl, [(h0, .inr (0, [.ref h1, .int (nI o), .int (nI k)]))], [(h1, qA cQ 7 fh)], wg, wPd cC p0 p1 ch pl pa po pf ps, wMd cI cZ m0 (μ 1) (μ 2) (μ 3) (μ 4) (μ 5) (μ 6) (μ 7) now thn past kept slt held mpad mpl mat ords ordn] : List va_W) [0, 1, 2, 3, 4, 5, 6, 7, 8] [9] rfl (by decide))
  refine r_callVY (rest := [.int r]) (ci := 5) (N := 11) (Cn := RX5) (T := TX5) C h (cwL_X5_row C.hts) (CT.toY (c_X5_row l G cI cC cZ [(cQ, .object RX2)] m0 (μ 1) (μ 2) (μ 3) (μ 4) (μ 5) (μ 6) (μ 7) now thn past kept slt held mpad mpl mat ords ordn X1 X2 r e2)) rfl (List.mem_append_right _ List.mem_cons_self) rfl hl.1 rfl (Nat.le_of_ble_eq_true rfl) ⟨(by show _ ≤ 600000; omega), (by show _ ≤ 7302249; omega)⟩ dL_law_329 (fun res w1 H locs hpo h => ?_)
  obtain ⟨rfl, rfl⟩ := hpo
  replace h : Hx s G (fun q : Nat => s.heap.size ≤ q) (catW ([[(d0, .inr (4, [.ref (α 0), .ref (β 0), .ref sl, .ref h0, .ref p0]))], wS cI α S, wS cI β V, [(sl, qA cQ 2 fs)], wl, [(h0, .inr (0, [.ref h1, .int (nI o), .int (nI k)]))], [(h1, qA cQ 7 fh)], wg, wPd cC p0 p1 ch pl pa po pf ps, wMd cI cZ m0 (μ 1) (μ 2) (μ 3) (μ 4) (μ 5) (μ 6) (μ 7) now thn past kept slt held mpad mpl mat ords ordn] : List va_W)) _ _ := Hx.perm (w := (catW ([[(d0, .inr (4, [.ref (α 0), .ref (β 0), .ref sl, .ref h0, .ref p0]))], wS cI α S, wS cI β V, [(sl, qA cQ 2 fs)], wl, [(h0, .inr (0, [.ref h1, .int (nI o), .int (nI k)]))], [(h1, qA cQ 7 fh)], wg, wPd cC p0 p1 ch pl pa po pf ps] : List va_W)) ++ (catW ([wMd cI cZ m0 (μ 1) (μ 2) (μ 3) (μ 4) (μ 5) (μ 6) (μ 7) now thn past kept slt held mpad mpl mat ords ordn] : List va_W))) h (perm_2 10 ([[(d0, .inr (4, [.ref (α 0), .ref (β 0), .ref sl, .ref h0, .ref p0]))], wS cI α S, wS cI β V, [(sl, qA cQ 2 fs)], wl, [(h0, .inr (0, [.ref h1, .int (nI o), .int (nI k)]))], [(h1, qA cQ 7 fh)], wg, wPd cC p0 p1 ch pl pa po pf ps, wMd cI cZ m0 (μ 1) (μ 2) (μ 3) (μ 4) (μ 5) (μ 6) (μ 7) now thn past kept slt held mpad mpl mat ords ordn] : List va_W) [0, 1, 2, 3, 4, 5, 6, 7, 8] [9] rfl (by decide)).symm
  refine lv_icmp_eq (tgt := 673) hx hb dL_law_332 (by decide) (fun _ => ?_) (fun hc => absurd rfl hc)
  refine W.widen (k := cells + 9) (n := slots + 340) (by omega) (by omega) ?_
  exact kk _ _ _ h ⟨α, β, μ, S, V, sl, h0, h1, p0, p1, o, k, fs, fh, Cl, Ch, wl, wg, ch, pl, pa, po, pf, ps, now, thn, past, kept, slt, held, mpad, mpl, mat, ords, ordn, hRl, hRg, (ns_mono hN (by omega)), (hs_mono hH (by omega)), (lsl_mono hLs (by omega)), hP, rfl⟩
set_option maxHeartbeats 8000000 in
set_option maxRecDepth 100000 in
theorem law_ofMissing {p : Program} {l : Launch} {e : Env} {s : State} {m : MethodId} {args : Array Value} {below : List Frame} {meth : Method} {c : Code} {Q : State → Prop} {G : va_G} {cI cC cZ cQ : ClassId} (C : Cx p s m args c G (TQ cI cC cZ cQ []) (fun q : Nat => s.heap.size ≤ q) RL cL_law wsL_law 4) {b L : Nat} {xs : Nat → Int32} (hX : va_X b L xs s s.heap) (hbl : b < s.heap.size) (hL : L ≤ 1536) {i : Nat} (hi : i + 3 ≤ L) {cells slots : Nat} (hcc : cells + 9 ≤ 600000) (hss : slots + 340 ≤ 7302249) {B : Nat} (hB : 200000 ≤ B) (hB2 : B + 5000 < 2000000000) {d0 m0 : Nat} {w : va_W} {H : Heap} {locs : List Loc} {ls : Array Slot} (h : Hx s G (fun q : Nat => s.heap.size ≤ q) w H locs) (hw : LW cI cC cZ cQ d0 m0 B w) (hl : lv_has ls 4 [(3, .int (nI i)), (2, .ref m0), (1, .ref d0), (0, .ref b)]) (kk : ∀ (w1 : va_W) (H1 : Heap) (locs1 : List Loc), Hx s G (fun q : Nat => s.heap.size ≤ q) w1 H1 locs1 → LW cI cC cZ cQ d0 m0 (B + 5000) w1 → W p l e room_1 s m args below meth c H1 locs1 (cells + 9) (slots + 340) Q (F0 m 673 ls [])) : W p l e room_1 s m args below meth c H locs cells slots Q (F0 m 337 ls []) := by
  obtain ⟨α, β, μ, S, V, sl, h0, h1, p0, p1, o, k, fs, fh, Cl, Ch, wl, wg, ch, pl, pa, po, pf, ps, now, thn, past, kept, slt, held, mpad, mpl, mat, ords, ordn, hRl, hRg, hN, hH, hLs, hP, rfl⟩ := hw
  have hx := C.hx
  have hb := C.hb
  have hbA : ¬ (fun q : Nat => s.heap.size ≤ q) b := Nat.not_le.mpr hbl
  obtain ⟨ho, hk6⟩ := hs_b hH
  have v1 : vp_in (nI (i + 1)) L := vp_in_nI (by omega) (by omega)
  have v2 : vp_in (nI (i + 2)) L := vp_in_nI (by omega) (by omega)
  obtain ⟨X1, hX1⟩ : ∃ x : Int32, x = xs (nI (i + 1)).toNatClampNeg := ⟨_, rfl⟩
  obtain ⟨X2, hX2⟩ : ∃ x : Int32, x = xs (nI (i + 2)).toNatClampNeg := ⟨_, rfl⟩
  obtain ⟨r, e1, e2⟩ := l_ofMissing hN X1 X2
  refine lv_aload_n hx hb dL_law_337 rfl (lv_at hl 2 rfl) ?_
  refine lv_aload_n hx hb dL_law_338 rfl (lv_at hl 3 rfl) ?_
  refine lv_iload_n hx hb dL_law_339 rfl (lv_at hl 0 rfl) ?_
  refine lv_iconst (v := 1) hx hb dL_law_340 (by decide) ?_
  refine lv_iadd hx hb dL_law_341 ?_
  rw [aI1 i]
  refine va_sld hx hb hX hbl hbA h.2.2 v1 dL_law_342 ?_
  rw [← hX1]
  refine lv_aload_n hx hb dL_law_343 rfl (lv_at hl 3 rfl) ?_
  refine lv_iload_n hx hb dL_law_344 rfl (lv_at hl 0 rfl) ?_
  refine lv_iconst (v := 2) hx hb dL_law_345 (by decide) ?_
  refine lv_iadd hx hb dL_law_346 ?_
  rw [aI2 i]
  refine va_sld hx hb hX hbl hbA h.2.2 v2 dL_law_347 ?_
  rw [← hX2]
  replace h : Hx s G (fun q : Nat => s.heap.size ≤ q) ((catW ([wS cI β V, [(sl, qA cQ 2 fs)], wl, [(h0, .inr (0, [.ref h1, .int (nI o), .int (nI k)]))], [(h1, qA cQ 7 fh)], wg, wPd cC p0 p1 ch pl pa po pf ps, wMd cI cZ m0 (μ 1) (μ 2) (μ 3) (μ 4) (μ 5) (μ 6) (μ 7) now thn past kept slt held mpad mpl mat ords ordn] : List va_W)) ++ (wLDs cI d0 (β 0) sl h0 p0 (α 0) (α 1) (α 2) (α 3) (α 4) (α 5) (α 6) (α 7) (α 8) (S.1) (S.2.1) (S.2.2.1) (S.2.2.2.1) (S.2.2.2.2.1) (S.2.2.2.2.2))) _ _ := h.perm (perm_2 10 ([[(d0, .inr (4, [.ref (α 0), .ref (β 0), .ref sl, .ref h0, .ref p0]))], wS cI α S, wS cI β V, [(sl, qA cQ 2 fs)], wl, [(h0, .inr (0, [.ref h1, .int (nI o), .int (nI k)]))], [(h1, qA cQ 7 fh)], wg, wPd cC p0 p1 ch pl pa po pf ps, wMd cI cZ m0 (μ 1) (μ 2) (μ 3) (μ 4) (μ 5) (μ 6) (μ 7) now thn past kept slt held mpad mpl mat ords ordn] : List va_W) [2, 3, 4, 5, 6, 7, 8, 9] [0, 1] rfl (by decide))
  refine r_callVY (rest := []) (ci := 4) (N := 5) (Cn := RX4) (T := TX4) C h (cwL_X4_ofMissing C.hts) (CT.toY (c_X4_ofMissing l G cI cC cZ [(cQ, .object RX2)] d0 (β 0) sl h0 p0 (α 0) (α 1) (α 2) (α 3) (α 4) (α 5) (α 6) (α 7) (α 8) S.1 S.2.1 S.2.2.1 S.2.2.2.1 S.2.2.2.2.1 S.2.2.2.2.2 X1 X2 r e1)) rfl (List.mem_append_right _ List.mem_cons_self) rfl hl.1 rfl (Nat.le_of_ble_eq_true rfl) ⟨(by show _ ≤ 600000; omega), (by show _ ≤ 7302249; omega)⟩ dL_law_348 (fun res w1 H locs hpo h => ?_)
  obtain ⟨rfl, rfl⟩ := hpo
  replace h : Hx s G (fun q : Nat => s.heap.size ≤ q) (catW ([[(d0, .inr (4, [.ref (α 0), .ref (β 0), .ref sl, .ref h0, .ref p0]))], wS cI α S, wS cI β V, [(sl, qA cQ 2 fs)], wl, [(h0, .inr (0, [.ref h1, .int (nI o), .int (nI k)]))], [(h1, qA cQ 7 fh)], wg, wPd cC p0 p1 ch pl pa po pf ps, wMd cI cZ m0 (μ 1) (μ 2) (μ 3) (μ 4) (μ 5) (μ 6) (μ 7) now thn past kept slt held mpad mpl mat ords ordn] : List va_W)) _ _ := Hx.perm (w := (catW ([wS cI β V, [(sl, qA cQ 2 fs)], wl, [(h0, .inr (0, [.ref h1, .int (nI o), .int (nI k)]))], [(h1, qA cQ 7 fh)], wg, wPd cC p0 p1 ch pl pa po pf ps, wMd cI cZ m0 (μ 1) (μ 2) (μ 3) (μ 4) (μ 5) (μ 6) (μ 7) now thn past kept slt held mpad mpl mat ords ordn] : List va_W)) ++ (catW ([[(d0, .inr (4, [.ref (α 0), .ref (β 0), .ref sl, .ref h0, .ref p0]))], wS cI α S] : List va_W))) h (perm_2 10 ([[(d0, .inr (4, [.ref (α 0), .ref (β 0), .ref sl, .ref h0, .ref p0]))], wS cI α S, wS cI β V, [(sl, qA cQ 2 fs)], wl, [(h0, .inr (0, [.ref h1, .int (nI o), .int (nI k)]))], [(h1, qA cQ 7 fh)], wg, wPd cC p0 p1 ch pl pa po pf ps, wMd cI cZ m0 (μ 1) (μ 2) (μ 3) (μ 4) (μ 5) (μ 6) (μ 7) now thn past kept slt held mpad mpl mat ords ordn] : List va_W) [2, 3, 4, 5, 6, 7, 8, 9] [0, 1] rfl (by decide)).symm
  refine lv_aload_n hx hb dL_law_351 rfl (lv_at hl 1 rfl) ?_
  refine lv_aload_n hx hb dL_law_352 rfl (lv_at hl 3 rfl) ?_
  refine lv_iload_n hx hb dL_law_353 rfl (lv_at hl 0 rfl) ?_
  refine lv_iconst (v := 1) hx hb dL_law_354 (by decide) ?_
  refine lv_iadd hx hb dL_law_355 ?_
  rw [aI1 i]
  refine va_sld hx hb hX hbl hbA h.2.2 v1 dL_law_356 ?_
  rw [← hX1]
  refine lv_aload_n hx hb dL_law_357 rfl (lv_at hl 3 rfl) ?_
  refine lv_iload_n hx hb dL_law_358 rfl (lv_at hl 0 rfl) ?_
  refine lv_iconst (v := 2) hx hb dL_law_359 (by decide) ?_
  refine lv_iadd hx hb dL_law_360 ?_
  rw [aI2 i]
  refine va_sld hx hb hX hbl hbA h.2.2 v2 dL_law_361 ?_
  rw [← hX2]
  replace h : Hx s G (fun q : Nat => s.heap.size ≤ q) ((catW ([[(d0, .inr (4, [.ref (α 0), .ref (β 0), .ref sl, .ref h0, .ref p0]))], wS cI α S, wS cI β V, [(sl, qA cQ 2 fs)], wl, [(h0, .inr (0, [.ref h1, .int (nI o), .int (nI k)]))], [(h1, qA cQ 7 fh)], wg, wPd cC p0 p1 ch pl pa po pf ps] : List va_W)) ++ wMd cI cZ m0 (μ 1) (μ 2) (μ 3) (μ 4) (μ 5) (μ 6) (μ 7) now thn past kept slt held mpad mpl mat ords ordn) _ _ := h.perm (perm_2 10 ([[(d0, .inr (4, [.ref (α 0), .ref (β 0), .ref sl, .ref h0, .ref p0]))], wS cI α S, wS cI β V, [(sl, qA cQ 2 fs)], wl, [(h0, .inr (0, [.ref h1, .int (nI o), .int (nI k)]))], [(h1, qA cQ 7 fh)], wg, wPd cC p0 p1 ch pl pa po pf ps, wMd cI cZ m0 (μ 1) (μ 2) (μ 3) (μ 4) (μ 5) (μ 6) (μ 7) now thn past kept slt held mpad mpl mat ords ordn] : List va_W) [0, 1, 2, 3, 4, 5, 6, 7, 8] [9] rfl (by decide))
  refine r_callVY (rest := [.int r]) (ci := 5) (N := 11) (Cn := RX5) (T := TX5) C h (cwL_X5_ofMissing C.hts) (CT.toY (c_X5_ofMissing l G cI cC cZ [(cQ, .object RX2)] m0 (μ 1) (μ 2) (μ 3) (μ 4) (μ 5) (μ 6) (μ 7) now thn past kept slt held mpad mpl mat ords ordn X1 X2 r e2)) rfl (List.mem_append_right _ List.mem_cons_self) rfl hl.1 rfl (Nat.le_of_ble_eq_true rfl) ⟨(by show _ ≤ 600000; omega), (by show _ ≤ 7302249; omega)⟩ dL_law_362 (fun res w1 H locs hpo h => ?_)
  obtain ⟨rfl, rfl⟩ := hpo
  replace h : Hx s G (fun q : Nat => s.heap.size ≤ q) (catW ([[(d0, .inr (4, [.ref (α 0), .ref (β 0), .ref sl, .ref h0, .ref p0]))], wS cI α S, wS cI β V, [(sl, qA cQ 2 fs)], wl, [(h0, .inr (0, [.ref h1, .int (nI o), .int (nI k)]))], [(h1, qA cQ 7 fh)], wg, wPd cC p0 p1 ch pl pa po pf ps, wMd cI cZ m0 (μ 1) (μ 2) (μ 3) (μ 4) (μ 5) (μ 6) (μ 7) now thn past kept slt held mpad mpl mat ords ordn] : List va_W)) _ _ := Hx.perm (w := (catW ([[(d0, .inr (4, [.ref (α 0), .ref (β 0), .ref sl, .ref h0, .ref p0]))], wS cI α S, wS cI β V, [(sl, qA cQ 2 fs)], wl, [(h0, .inr (0, [.ref h1, .int (nI o), .int (nI k)]))], [(h1, qA cQ 7 fh)], wg, wPd cC p0 p1 ch pl pa po pf ps] : List va_W)) ++ (catW ([wMd cI cZ m0 (μ 1) (μ 2) (μ 3) (μ 4) (μ 5) (μ 6) (μ 7) now thn past kept slt held mpad mpl mat ords ordn] : List va_W))) h (perm_2 10 ([[(d0, .inr (4, [.ref (α 0), .ref (β 0), .ref sl, .ref h0, .ref p0]))], wS cI α S, wS cI β V, [(sl, qA cQ 2 fs)], wl, [(h0, .inr (0, [.ref h1, .int (nI o), .int (nI k)]))], [(h1, qA cQ 7 fh)], wg, wPd cC p0 p1 ch pl pa po pf ps, wMd cI cZ m0 (μ 1) (μ 2) (μ 3) (μ 4) (μ 5) (μ 6) (μ 7) now thn past kept slt held mpad mpl mat ords ordn] : List va_W) [0, 1, 2, 3, 4, 5, 6, 7, 8] [9] rfl (by decide)).symm
  refine lv_icmp_eq (tgt := 673) hx hb dL_law_365 (by decide) (fun _ => ?_) (fun hc => absurd rfl hc)
  refine W.widen (k := cells + 9) (n := slots + 340) (by omega) (by omega) ?_
  exact kk _ _ _ h ⟨α, β, μ, S, V, sl, h0, h1, p0, p1, o, k, fs, fh, Cl, Ch, wl, wg, ch, pl, pa, po, pf, ps, now, thn, past, kept, slt, held, mpad, mpl, mat, ords, ordn, hRl, hRg, (ns_mono hN (by omega)), (hs_mono hH (by omega)), (lsl_mono hLs (by omega)), hP, rfl⟩
set_option maxHeartbeats 8000000 in
set_option maxRecDepth 100000 in
theorem law_count {p : Program} {l : Launch} {e : Env} {s : State} {m : MethodId} {args : Array Value} {below : List Frame} {meth : Method} {c : Code} {Q : State → Prop} {G : va_G} {cI cC cZ cQ : ClassId} (C : Cx p s m args c G (TQ cI cC cZ cQ []) (fun q : Nat => s.heap.size ≤ q) RL cL_law wsL_law 4) {b L : Nat} {xs : Nat → Int32} (hX : va_X b L xs s s.heap) (hbl : b < s.heap.size) (hL : L ≤ 1536) {i : Nat} (hi : i + 3 ≤ L) {cells slots : Nat} (hcc : cells + 9 ≤ 600000) (hss : slots + 340 ≤ 7302249) {B : Nat} (hB : 200000 ≤ B) (hB2 : B + 5000 < 2000000000) {d0 m0 : Nat} {w : va_W} {H : Heap} {locs : List Loc} {ls : Array Slot} (h : Hx s G (fun q : Nat => s.heap.size ≤ q) w H locs) (hw : LW cI cC cZ cQ d0 m0 B w) (hl : lv_has ls 4 [(3, .int (nI i)), (2, .ref m0), (1, .ref d0), (0, .ref b)]) (kk : ∀ (w1 : va_W) (H1 : Heap) (locs1 : List Loc), Hx s G (fun q : Nat => s.heap.size ≤ q) w1 H1 locs1 → LW cI cC cZ cQ d0 m0 (B + 5000) w1 → W p l e room_1 s m args below meth c H1 locs1 (cells + 9) (slots + 340) Q (F0 m 673 ls [])) : W p l e room_1 s m args below meth c H locs cells slots Q (F0 m 370 ls []) := by
  obtain ⟨α, β, μ, S, V, sl, h0, h1, p0, p1, o, k, fs, fh, Cl, Ch, wl, wg, ch, pl, pa, po, pf, ps, now, thn, past, kept, slt, held, mpad, mpl, mat, ords, ordn, hRl, hRg, hN, hH, hLs, hP, rfl⟩ := hw
  have hx := C.hx
  have hb := C.hb
  have hbA : ¬ (fun q : Nat => s.heap.size ≤ q) b := Nat.not_le.mpr hbl
  obtain ⟨ho, hk6⟩ := hs_b hH
  have v1 : vp_in (nI (i + 1)) L := vp_in_nI (by omega) (by omega)
  have v2 : vp_in (nI (i + 2)) L := vp_in_nI (by omega) (by omega)
  obtain ⟨X1, hX1⟩ : ∃ x : Int32, x = xs (nI (i + 1)).toNatClampNeg := ⟨_, rfl⟩
  obtain ⟨X2, hX2⟩ : ∃ x : Int32, x = xs (nI (i + 2)).toNatClampNeg := ⟨_, rfl⟩
  have ek : kept = nI k := hs_kept hH
  have ep : pl = mpl := pp_eq hP
  obtain ⟨r, e1, e2⟩ := l_count hN pl (nI k) X1
  rw [← ek, ep] at e2
  refine lv_aload_n hx hb dL_law_370 rfl (lv_at hl 2 rfl) ?_
  refine lv_aload_n hx hb dL_law_371 rfl (lv_at hl 3 rfl) ?_
  refine lv_iload_n hx hb dL_law_372 rfl (lv_at hl 0 rfl) ?_
  refine lv_iconst (v := 1) hx hb dL_law_373 (by decide) ?_
  refine lv_iadd hx hb dL_law_374 ?_
  rw [aI1 i]
  refine va_sld hx hb hX hbl hbA h.2.2 v1 dL_law_375 ?_
  rw [← hX1]
  replace h : Hx s G (fun q : Nat => s.heap.size ≤ q) ((catW ([wS cI β V, [(sl, qA cQ 2 fs)], wl, [(h1, qA cQ 7 fh)], wg, wMd cI cZ m0 (μ 1) (μ 2) (μ 3) (μ 4) (μ 5) (μ 6) (μ 7) now thn past kept slt held mpad mpl mat ords ordn] : List va_W)) ++ (wLDc cI cC d0 (β 0) sl (α 0) (α 1) (α 2) (α 3) (α 4) (α 5) (α 6) (α 7) (α 8) p0 p1 h0 h1 (S.1) (S.2.1) (S.2.2.1) (S.2.2.2.1) (S.2.2.2.2.1) (S.2.2.2.2.2) ch pl pa po pf ps (nI o) (nI k))) _ _ := h.perm (perm_2 10 ([[(d0, .inr (4, [.ref (α 0), .ref (β 0), .ref sl, .ref h0, .ref p0]))], wS cI α S, wS cI β V, [(sl, qA cQ 2 fs)], wl, [(h0, .inr (0, [.ref h1, .int (nI o), .int (nI k)]))], [(h1, qA cQ 7 fh)], wg, wPd cC p0 p1 ch pl pa po pf ps, wMd cI cZ m0 (μ 1) (μ 2) (μ 3) (μ 4) (μ 5) (μ 6) (μ 7) now thn past kept slt held mpad mpl mat ords ordn] : List va_W) [2, 3, 4, 6, 7, 9] [0, 1, 8, 5] rfl (by decide))
  refine r_callVY (rest := []) (ci := 4) (N := 5) (Cn := RX4) (T := TX4) C h (cwL_X4_count C.hts) (CT.toY (c_X4_count l G cI cC cZ [(cQ, .object RX2)] d0 (β 0) sl (α 0) (α 1) (α 2) (α 3) (α 4) (α 5) (α 6) (α 7) (α 8) p0 p1 h0 h1 S.1 S.2.1 S.2.2.1 S.2.2.2.1 S.2.2.2.2.1 S.2.2.2.2.2 ch pl pa po pf ps (nI o) (nI k) X1 r e1)) rfl (List.mem_append_right _ List.mem_cons_self) rfl hl.1 rfl (Nat.le_of_ble_eq_true rfl) ⟨(by show _ ≤ 600000; omega), (by show _ ≤ 7302249; omega)⟩ dL_law_376 (fun res w1 H locs hpo h => ?_)
  obtain ⟨rfl, rfl⟩ := hpo
  replace h : Hx s G (fun q : Nat => s.heap.size ≤ q) (catW ([[(d0, .inr (4, [.ref (α 0), .ref (β 0), .ref sl, .ref h0, .ref p0]))], wS cI α S, wS cI β V, [(sl, qA cQ 2 fs)], wl, [(h0, .inr (0, [.ref h1, .int (nI o), .int (nI k)]))], [(h1, qA cQ 7 fh)], wg, wPd cC p0 p1 ch pl pa po pf ps, wMd cI cZ m0 (μ 1) (μ 2) (μ 3) (μ 4) (μ 5) (μ 6) (μ 7) now thn past kept slt held mpad mpl mat ords ordn] : List va_W)) _ _ := Hx.perm (w := (catW ([wS cI β V, [(sl, qA cQ 2 fs)], wl, [(h1, qA cQ 7 fh)], wg, wMd cI cZ m0 (μ 1) (μ 2) (μ 3) (μ 4) (μ 5) (μ 6) (μ 7) now thn past kept slt held mpad mpl mat ords ordn] : List va_W)) ++ (catW ([[(d0, .inr (4, [.ref (α 0), .ref (β 0), .ref sl, .ref h0, .ref p0]))], wS cI α S, wPd cC p0 p1 ch pl pa po pf ps, [(h0, .inr (0, [.ref h1, .int (nI o), .int (nI k)]))]] : List va_W))) h (perm_2 10 ([[(d0, .inr (4, [.ref (α 0), .ref (β 0), .ref sl, .ref h0, .ref p0]))], wS cI α S, wS cI β V, [(sl, qA cQ 2 fs)], wl, [(h0, .inr (0, [.ref h1, .int (nI o), .int (nI k)]))], [(h1, qA cQ 7 fh)], wg, wPd cC p0 p1 ch pl pa po pf ps, wMd cI cZ m0 (μ 1) (μ 2) (μ 3) (μ 4) (μ 5) (μ 6) (μ 7) now thn past kept slt held mpad mpl mat ords ordn] : List va_W) [2, 3, 4, 6, 7, 9] [0, 1, 8, 5] rfl (by decide)).symm
  refine lv_aload_n hx hb dL_law_379 rfl (lv_at hl 1 rfl) ?_
  refine lv_aload_n hx hb dL_law_380 rfl (lv_at hl 3 rfl) ?_
  refine lv_iload_n hx hb dL_law_381 rfl (lv_at hl 0 rfl) ?_
  refine lv_iconst (v := 1) hx hb dL_law_382 (by decide) ?_
  refine lv_iadd hx hb dL_law_383 ?_
  rw [aI1 i]
  refine va_sld hx hb hX hbl hbA h.2.2 v1 dL_law_384 ?_
  rw [← hX1]
  replace h : Hx s G (fun q : Nat => s.heap.size ≤ q) ((catW ([[(d0, .inr (4, [.ref (α 0), .ref (β 0), .ref sl, .ref h0, .ref p0]))], wS cI α S, wS cI β V, [(sl, qA cQ 2 fs)], wl, [(h0, .inr (0, [.ref h1, .int (nI o), .int (nI k)]))], [(h1, qA cQ 7 fh)], wg, wPd cC p0 p1 ch pl pa po pf ps] : List va_W)) ++ wMd cI cZ m0 (μ 1) (μ 2) (μ 3) (μ 4) (μ 5) (μ 6) (μ 7) now thn past kept slt held mpad mpl mat ords ordn) _ _ := h.perm (perm_2 10 ([[(d0, .inr (4, [.ref (α 0), .ref (β 0), .ref sl, .ref h0, .ref p0]))], wS cI α S, wS cI β V, [(sl, qA cQ 2 fs)], wl, [(h0, .inr (0, [.ref h1, .int (nI o), .int (nI k)]))], [(h1, qA cQ 7 fh)], wg, wPd cC p0 p1 ch pl pa po pf ps, wMd cI cZ m0 (μ 1) (μ 2) (μ 3) (μ 4) (μ 5) (μ 6) (μ 7) now thn past kept slt held mpad mpl mat ords ordn] : List va_W) [0, 1, 2, 3, 4, 5, 6, 7, 8] [9] rfl (by decide))
  refine r_callVY (rest := [.int r]) (ci := 5) (N := 11) (Cn := RX5) (T := TX5) C h (cwL_X5_count C.hts) (CT.toY (c_X5_count l G cI cC cZ [(cQ, .object RX2)] m0 (μ 1) (μ 2) (μ 3) (μ 4) (μ 5) (μ 6) (μ 7) now thn past kept slt held mpad mpl mat ords ordn X1 r e2)) rfl (List.mem_append_right _ List.mem_cons_self) rfl hl.1 rfl (Nat.le_of_ble_eq_true rfl) ⟨(by show _ ≤ 600000; omega), (by show _ ≤ 7302249; omega)⟩ dL_law_385 (fun res w1 H locs hpo h => ?_)
  obtain ⟨rfl, rfl⟩ := hpo
  replace h : Hx s G (fun q : Nat => s.heap.size ≤ q) (catW ([[(d0, .inr (4, [.ref (α 0), .ref (β 0), .ref sl, .ref h0, .ref p0]))], wS cI α S, wS cI β V, [(sl, qA cQ 2 fs)], wl, [(h0, .inr (0, [.ref h1, .int (nI o), .int (nI k)]))], [(h1, qA cQ 7 fh)], wg, wPd cC p0 p1 ch pl pa po pf ps, wMd cI cZ m0 (μ 1) (μ 2) (μ 3) (μ 4) (μ 5) (μ 6) (μ 7) now thn past kept slt held mpad mpl mat ords ordn] : List va_W)) _ _ := Hx.perm (w := (catW ([[(d0, .inr (4, [.ref (α 0), .ref (β 0), .ref sl, .ref h0, .ref p0]))], wS cI α S, wS cI β V, [(sl, qA cQ 2 fs)], wl, [(h0, .inr (0, [.ref h1, .int (nI o), .int (nI k)]))], [(h1, qA cQ 7 fh)], wg, wPd cC p0 p1 ch pl pa po pf ps] : List va_W)) ++ (catW ([wMd cI cZ m0 (μ 1) (μ 2) (μ 3) (μ 4) (μ 5) (μ 6) (μ 7) now thn past kept slt held mpad mpl mat ords ordn] : List va_W))) h (perm_2 10 ([[(d0, .inr (4, [.ref (α 0), .ref (β 0), .ref sl, .ref h0, .ref p0]))], wS cI α S, wS cI β V, [(sl, qA cQ 2 fs)], wl, [(h0, .inr (0, [.ref h1, .int (nI o), .int (nI k)]))], [(h1, qA cQ 7 fh)], wg, wPd cC p0 p1 ch pl pa po pf ps, wMd cI cZ m0 (μ 1) (μ 2) (μ 3) (μ 4) (μ 5) (μ 6) (μ 7) now thn past kept slt held mpad mpl mat ords ordn] : List va_W) [0, 1, 2, 3, 4, 5, 6, 7, 8] [9] rfl (by decide)).symm
  refine lv_icmp_eq (tgt := 673) hx hb dL_law_388 (by decide) (fun _ => ?_) (fun hc => absurd rfl hc)
  refine W.widen (k := cells + 9) (n := slots + 340) (by omega) (by omega) ?_
  exact kk _ _ _ h ⟨α, β, μ, S, V, sl, h0, h1, p0, p1, o, k, fs, fh, Cl, Ch, wl, wg, ch, pl, pa, po, pf, ps, now, thn, past, kept, slt, held, mpad, mpl, mat, ords, ordn, hRl, hRg, (ns_mono hN (by omega)), (hs_mono hH (by omega)), (lsl_mono hLs (by omega)), hP, rfl⟩
