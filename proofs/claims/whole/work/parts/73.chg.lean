/-! ===== the law: changes ===== -/
set_option maxHeartbeats 8000000 in
set_option maxRecDepth 100000 in
theorem law_set {p : Program} {l : Launch} {e : Env} {s : State} {m : MethodId} {args : Array Value} {below : List Frame} {meth : Method} {c : Code} {Q : State → Prop} {G : va_G} {cI cC cZ cQ : ClassId} (C : Cx p s m args c G (TQ cI cC cZ cQ []) (fun q : Nat => s.heap.size ≤ q) RL cL_law wsL_law 4) {b L : Nat} {xs : Nat → Int32} (hX : va_X b L xs s s.heap) (hbl : b < s.heap.size) (hL : L ≤ 1536) {i : Nat} (hi : i + 3 ≤ L) {cells slots : Nat} (hcc : cells + 9 ≤ 600000) (hss : slots + 340 ≤ 7302249) {B : Nat} (hB : 200000 ≤ B) (hB2 : B + 5000 < 2000000000) {d0 m0 : Nat} {w : va_W} {H : Heap} {locs : List Loc} {ls : Array Slot} (h : Hx s G (fun q : Nat => s.heap.size ≤ q) w H locs) (hw : LW cI cC cZ cQ d0 m0 B w) (hl : lv_has ls 4 [(3, .int (nI i)), (2, .ref m0), (1, .ref d0), (0, .ref b)]) (kk : ∀ (w1 : va_W) (H1 : Heap) (locs1 : List Loc), Hx s G (fun q : Nat => s.heap.size ≤ q) w1 H1 locs1 → LW cI cC cZ cQ d0 m0 (B + 5000) w1 → W p l e room_1 s m args below meth c H1 locs1 (cells + 9) (slots + 340) Q (F0 m 673 ls [])) : W p l e room_1 s m args below meth c H locs cells slots Q (F0 m 136 ls []) := by
  obtain ⟨α, β, μ, S, V, sl, h0, h1, p0, p1, o, k, fs, fh, Cl, Ch, wl, wg, ch, pl, pa, po, pf, ps, now, thn, past, kept, slt, held, mpad, mpl, mat, ords, ordn, hRl, hRg, hN, hH, hLs, hP, rfl⟩ := hw
  have hx := C.hx
  have hb := C.hb
  have hbA : ¬ (fun q : Nat => s.heap.size ≤ q) b := Nat.not_le.mpr hbl
  obtain ⟨ho, hk6⟩ := hs_b hH
  have v1 : vp_in (nI (i + 1)) L := vp_in_nI (by omega) (by omega)
  have v2 : vp_in (nI (i + 2)) L := vp_in_nI (by omega) (by omega)
  obtain ⟨X1, hX1⟩ : ∃ x : Int32, x = xs (nI (i + 1)).toNatClampNeg := ⟨_, rfl⟩
  obtain ⟨X2, hX2⟩ : ∃ x : Int32, x = xs (nI (i + 2)).toNatClampNeg := ⟨_, rfl⟩
  obtain ⟨r, nu', o2, k2, now', past', kept', e1, e2, hkd, hN', hH'⟩ := l_set hN hH X1 X2
  refine lv_aload_n hx hb dL_law_136 rfl (lv_at hl 2 rfl) ?_
  refine lv_aload_n hx hb dL_law_137 rfl (lv_at hl 3 rfl) ?_
  refine lv_iload_n hx hb dL_law_138 rfl (lv_at hl 0 rfl) ?_
  refine lv_iconst (v := 1) hx hb dL_law_139 (by decide) ?_
  refine lv_iadd hx hb dL_law_140 ?_
  rw [aI1 i]
  refine va_sld hx hb hX hbl hbA h.2.2 v1 dL_law_141 ?_
  rw [← hX1]
  refine lv_aload_n hx hb dL_law_142 rfl (lv_at hl 3 rfl) ?_
  refine lv_iload_n hx hb dL_law_143 rfl (lv_at hl 0 rfl) ?_
  refine lv_iconst (v := 2) hx hb dL_law_144 (by decide) ?_
  refine lv_iadd hx hb dL_law_145 ?_
  rw [aI2 i]
  refine va_sld hx hb hX hbl hbA h.2.2 v2 dL_law_146 ?_
  rw [← hX2]
  replace h : Hx s G (fun q : Nat => s.heap.size ≤ q) ((catW ([wS cI β V, [(sl, qA cQ 2 fs)], wl, wPd cC p0 p1 ch pl pa po pf ps, wMd cI cZ m0 (μ 1) (μ 2) (μ 3) (μ 4) (μ 5) (μ 6) (μ 7) now thn past kept slt held mpad mpl mat ords ordn] : List va_W)) ++ ([(d0, .inr (4, [.ref (α 0), .ref (β 0), .ref sl, .ref h0, .ref p0])), (h0, .inr (0, [.ref h1, .int (nI o), .int (nI k)])), (h1, qA cQ 7 fh)] ++ wS cI α S ++ wg)) _ _ := h.perm (perm_2 10 ([[(d0, .inr (4, [.ref (α 0), .ref (β 0), .ref sl, .ref h0, .ref p0]))], wS cI α S, wS cI β V, [(sl, qA cQ 2 fs)], wl, [(h0, .inr (0, [.ref h1, .int (nI o), .int (nI k)]))], [(h1, qA cQ 7 fh)], wg, wPd cC p0 p1 ch pl pa po pf ps, wMd cI cZ m0 (μ 1) (μ 2) (μ 3) (μ 4) (μ 5) (μ 6) (μ 7) now thn past kept slt held mpad mpl mat ords ordn] : List va_W) [2, 3, 4, 8, 9] [0, 5, 6, 1, 7] rfl (by decide))
  refine r_callVY (rest := []) (ci := 4) (N := 5) (Cn := RX4) (T := TX4) C h (cwL_X4_set C.hts) (c_X4_set l G cI cC cZ cQ [] d0 (β 0) sl h0 h1 p0 o k ho hk6 fh Ch wg hRg α S X1 X2 nu' r r (nI o2) (nI k2) e1 hkd) rfl (List.mem_append_right _ List.mem_cons_self) rfl hl.1 rfl (Nat.le_of_ble_eq_true rfl) ⟨(by show _ ≤ 600000; omega), (by show _ ≤ 7302249; omega)⟩ dL_law_147 (fun res w1 H locs hpo h => ?_)
  obtain ⟨rfl, f', wg', Y, hY, hg, rfl⟩ := hpo
  replace h : Hx s G (fun q : Nat => s.heap.size ≤ q) (catW ([[(d0, .inr (4, [.ref (α 0), .ref (β 0), .ref sl, .ref h0, .ref p0]))], wS cI α (nu', S.2.1, S.2.2.1, S.2.2.2.1, S.2.2.2.2.1, S.2.2.2.2.2), wS cI β V, [(sl, qA cQ 2 fs)], wl, [(h0, .inr (0, [.ref h1, .int (nI o2), .int (nI k2)]))], [(h1, qA cQ 7 f')], wg', wPd cC p0 p1 ch pl pa po pf ps, wMd cI cZ m0 (μ 1) (μ 2) (μ 3) (μ 4) (μ 5) (μ 6) (μ 7) now thn past kept slt held mpad mpl mat ords ordn] : List va_W)) _ _ := Hx.perm (w := (catW ([wS cI β V, [(sl, qA cQ 2 fs)], wl, wPd cC p0 p1 ch pl pa po pf ps, wMd cI cZ m0 (μ 1) (μ 2) (μ 3) (μ 4) (μ 5) (μ 6) (μ 7) now thn past kept slt held mpad mpl mat ords ordn] : List va_W)) ++ (catW ([[(d0, .inr (4, [.ref (α 0), .ref (β 0), .ref sl, .ref h0, .ref p0]))], [(h0, .inr (0, [.ref h1, .int (nI o2), .int (nI k2)]))], [(h1, qA cQ 7 f')], wS cI α (nu', S.2.1, S.2.2.1, S.2.2.2.1, S.2.2.2.2.1, S.2.2.2.2.2), wg'] : List va_W))) h (perm_2 10 ([[(d0, .inr (4, [.ref (α 0), .ref (β 0), .ref sl, .ref h0, .ref p0]))], wS cI α (nu', S.2.1, S.2.2.1, S.2.2.2.1, S.2.2.2.2.1, S.2.2.2.2.2), wS cI β V, [(sl, qA cQ 2 fs)], wl, [(h0, .inr (0, [.ref h1, .int (nI o2), .int (nI k2)]))], [(h1, qA cQ 7 f')], wg', wPd cC p0 p1 ch pl pa po pf ps, wMd cI cZ m0 (μ 1) (μ 2) (μ 3) (μ 4) (μ 5) (μ 6) (μ 7) now thn past kept slt held mpad mpl mat ords ordn] : List va_W) [2, 3, 4, 8, 9] [0, 5, 6, 1, 7] rfl (by decide)).symm
  refine lv_aload_n hx hb dL_law_150 rfl (lv_at hl 1 rfl) ?_
  refine lv_aload_n hx hb dL_law_151 rfl (lv_at hl 3 rfl) ?_
  refine lv_iload_n hx hb dL_law_152 rfl (lv_at hl 0 rfl) ?_
  refine lv_iconst (v := 1) hx hb dL_law_153 (by decide) ?_
  refine lv_iadd hx hb dL_law_154 ?_
  rw [aI1 i]
  refine va_sld hx hb hX hbl hbA h.2.2 v1 dL_law_155 ?_
  rw [← hX1]
  refine lv_aload_n hx hb dL_law_156 rfl (lv_at hl 3 rfl) ?_
  refine lv_iload_n hx hb dL_law_157 rfl (lv_at hl 0 rfl) ?_
  refine lv_iconst (v := 2) hx hb dL_law_158 (by decide) ?_
  refine lv_iadd hx hb dL_law_159 ?_
  rw [aI2 i]
  refine va_sld hx hb hX hbl hbA h.2.2 v2 dL_law_160 ?_
  rw [← hX2]
  replace h : Hx s G (fun q : Nat => s.heap.size ≤ q) ((catW ([[(d0, .inr (4, [.ref (α 0), .ref (β 0), .ref sl, .ref h0, .ref p0]))], wS cI α (nu', S.2.1, S.2.2.1, S.2.2.2.1, S.2.2.2.2.1, S.2.2.2.2.2), wS cI β V, [(sl, qA cQ 2 fs)], wl, [(h0, .inr (0, [.ref h1, .int (nI o2), .int (nI k2)]))], [(h1, qA cQ 7 f')], wg', wPd cC p0 p1 ch pl pa po pf ps] : List va_W)) ++ wMd cI cZ m0 (μ 1) (μ 2) (μ 3) (μ 4) (μ 5) (μ 6) (μ 7) now thn past kept slt held mpad mpl mat ords ordn) _ _ := h.perm (perm_2 10 ([[(d0, .inr (4, [.ref (α 0), .ref (β 0), .ref sl, .ref h0, .ref p0]))], wS cI α (nu', S.2.1, S.2.2.1, S.2.2.2.1, S.2.2.2.2.1, S.2.2.2.2.2), wS cI β V, [(sl, qA cQ 2 fs)], wl, [(h0, .inr (0, [.ref h1, .int (nI o2), .int (nI k2)]))], [(h1, qA cQ 7 f')], wg', wPd cC p0 p1 ch pl pa po pf ps, wMd cI cZ m0 (μ 1) (μ 2) (μ 3) (μ 4) (μ 5) (μ 6) (μ 7) now thn past kept slt held mpad mpl mat ords ordn] : List va_W) [0, 1, 2, 3, 4, 5, 6, 7, 8] [9] rfl (by decide))
  refine r_callVY (rest := [.int r]) (ci := 5) (N := 11) (Cn := RX5) (T := TX5) C h (cwL_X5_set C.hts) (CT.toY (c_X5_set l G cI cC cZ [(cQ, .object RX2)] m0 (μ 1) (μ 2) (μ 3) (μ 4) (μ 5) (μ 6) (μ 7) now thn past kept slt held mpad mpl mat ords ordn X1 X2 r now' past' kept' e2)) rfl (List.mem_append_right _ List.mem_cons_self) rfl hl.1 rfl (Nat.le_of_ble_eq_true rfl) ⟨(by show _ ≤ 600000; omega), (by show _ ≤ 7302249; omega)⟩ dL_law_161 (fun res w1 H locs hpo h => ?_)
  obtain ⟨rfl, rfl⟩ := hpo
  replace h : Hx s G (fun q : Nat => s.heap.size ≤ q) (catW ([[(d0, .inr (4, [.ref (α 0), .ref (β 0), .ref sl, .ref h0, .ref p0]))], wS cI α (nu', S.2.1, S.2.2.1, S.2.2.2.1, S.2.2.2.2.1, S.2.2.2.2.2), wS cI β V, [(sl, qA cQ 2 fs)], wl, [(h0, .inr (0, [.ref h1, .int (nI o2), .int (nI k2)]))], [(h1, qA cQ 7 f')], wg', wPd cC p0 p1 ch pl pa po pf ps, wMd cI cZ m0 (μ 1) (μ 2) (μ 3) (μ 4) (μ 5) (μ 6) (μ 7) now' thn past' kept' slt held mpad mpl mat ords ordn] : List va_W)) _ _ := Hx.perm (w := (catW ([[(d0, .inr (4, [.ref (α 0), .ref (β 0), .ref sl, .ref h0, .ref p0]))], wS cI α (nu', S.2.1, S.2.2.1, S.2.2.2.1, S.2.2.2.2.1, S.2.2.2.2.2), wS cI β V, [(sl, qA cQ 2 fs)], wl, [(h0, .inr (0, [.ref h1, .int (nI o2), .int (nI k2)]))], [(h1, qA cQ 7 f')], wg', wPd cC p0 p1 ch pl pa po pf ps] : List va_W)) ++ (catW ([wMd cI cZ m0 (μ 1) (μ 2) (μ 3) (μ 4) (μ 5) (μ 6) (μ 7) now' thn past' kept' slt held mpad mpl mat ords ordn] : List va_W))) h (perm_2 10 ([[(d0, .inr (4, [.ref (α 0), .ref (β 0), .ref sl, .ref h0, .ref p0]))], wS cI α (nu', S.2.1, S.2.2.1, S.2.2.2.1, S.2.2.2.2.1, S.2.2.2.2.2), wS cI β V, [(sl, qA cQ 2 fs)], wl, [(h0, .inr (0, [.ref h1, .int (nI o2), .int (nI k2)]))], [(h1, qA cQ 7 f')], wg', wPd cC p0 p1 ch pl pa po pf ps, wMd cI cZ m0 (μ 1) (μ 2) (μ 3) (μ 4) (μ 5) (μ 6) (μ 7) now' thn past' kept' slt held mpad mpl mat ords ordn] : List va_W) [0, 1, 2, 3, 4, 5, 6, 7, 8] [9] rfl (by decide)).symm
  refine lv_icmp_eq (tgt := 673) hx hb dL_law_164 (by decide) (fun _ => ?_) (fun hc => absurd rfl hc)
  exact kk _ _ _ h ⟨α, β, μ, (nu', S.2.1, S.2.2.1, S.2.2.2.1, S.2.2.2.2.1, S.2.2.2.2.2), V, sl, h0, h1, p0, p1, o2, k2, fs, f', Cl, (va_up Ch ((o + k) % 7) (some Y)), wl, wg', ch, pl, pa, po, pf, ps, now', thn, past', kept', slt, held, mpad, mpl, mat, ords, ordn, hRl, hg, (ns_mono hN' (by omega)), (hs_mono (hH' Y hY) (by omega)), (lsl_mono hLs (by omega)), hP, rfl⟩
set_option maxHeartbeats 8000000 in
set_option maxRecDepth 100000 in
theorem law_value {p : Program} {l : Launch} {e : Env} {s : State} {m : MethodId} {args : Array Value} {below : List Frame} {meth : Method} {c : Code} {Q : State → Prop} {G : va_G} {cI cC cZ cQ : ClassId} (C : Cx p s m args c G (TQ cI cC cZ cQ []) (fun q : Nat => s.heap.size ≤ q) RL cL_law wsL_law 4) {b L : Nat} {xs : Nat → Int32} (hX : va_X b L xs s s.heap) (hbl : b < s.heap.size) (hL : L ≤ 1536) {i : Nat} (hi : i + 3 ≤ L) {cells slots : Nat} (hcc : cells + 9 ≤ 600000) (hss : slots + 340 ≤ 7302249) {B : Nat} (hB : 200000 ≤ B) (hB2 : B + 5000 < 2000000000) {d0 m0 : Nat} {w : va_W} {H : Heap} {locs : List Loc} {ls : Array Slot} (h : Hx s G (fun q : Nat => s.heap.size ≤ q) w H locs) (hw : LW cI cC cZ cQ d0 m0 B w) (hl : lv_has ls 4 [(3, .int (nI i)), (2, .ref m0), (1, .ref d0), (0, .ref b)]) (kk : ∀ (w1 : va_W) (H1 : Heap) (locs1 : List Loc), Hx s G (fun q : Nat => s.heap.size ≤ q) w1 H1 locs1 → LW cI cC cZ cQ d0 m0 (B + 5000) w1 → W p l e room_1 s m args below meth c H1 locs1 (cells + 9) (slots + 340) Q (F0 m 673 ls [])) : W p l e room_1 s m args below meth c H locs cells slots Q (F0 m 169 ls []) := by
  obtain ⟨α, β, μ, S, V, sl, h0, h1, p0, p1, o, k, fs, fh, Cl, Ch, wl, wg, ch, pl, pa, po, pf, ps, now, thn, past, kept, slt, held, mpad, mpl, mat, ords, ordn, hRl, hRg, hN, hH, hLs, hP, rfl⟩ := hw
  have hx := C.hx
  have hb := C.hb
  have hbA : ¬ (fun q : Nat => s.heap.size ≤ q) b := Nat.not_le.mpr hbl
  obtain ⟨ho, hk6⟩ := hs_b hH
  have v1 : vp_in (nI (i + 1)) L := vp_in_nI (by omega) (by omega)
  have v2 : vp_in (nI (i + 2)) L := vp_in_nI (by omega) (by omega)
  obtain ⟨X1, hX1⟩ : ∃ x : Int32, x = xs (nI (i + 1)).toNatClampNeg := ⟨_, rfl⟩
  obtain ⟨X2, hX2⟩ : ∃ x : Int32, x = xs (nI (i + 2)).toNatClampNeg := ⟨_, rfl⟩
  obtain ⟨r, va', o2, k2, now', past', kept', e1, e2, hkd, hN', hH'⟩ := l_value hN hH X1 X2
  refine lv_aload_n hx hb dL_law_169 rfl (lv_at hl 2 rfl) ?_
  refine lv_aload_n hx hb dL_law_170 rfl (lv_at hl 3 rfl) ?_
  refine lv_iload_n hx hb dL_law_171 rfl (lv_at hl 0 rfl) ?_
  refine lv_iconst (v := 1) hx hb dL_law_172 (by decide) ?_
  refine lv_iadd hx hb dL_law_173 ?_
  rw [aI1 i]
  refine va_sld hx hb hX hbl hbA h.2.2 v1 dL_law_174 ?_
  rw [← hX1]
  refine lv_aload_n hx hb dL_law_175 rfl (lv_at hl 3 rfl) ?_
  refine lv_iload_n hx hb dL_law_176 rfl (lv_at hl 0 rfl) ?_
  refine lv_iconst (v := 2) hx hb dL_law_177 (by decide) ?_
  refine lv_iadd hx hb dL_law_178 ?_
  rw [aI2 i]
  refine va_sld hx hb hX hbl hbA h.2.2 v2 dL_law_179 ?_
  rw [← hX2]
  replace h : Hx s G (fun q : Nat => s.heap.size ≤ q) ((catW ([wS cI β V, [(sl, qA cQ 2 fs)], wl, wPd cC p0 p1 ch pl pa po pf ps, wMd cI cZ m0 (μ 1) (μ 2) (μ 3) (μ 4) (μ 5) (μ 6) (μ 7) now thn past kept slt held mpad mpl mat ords ordn] : List va_W)) ++ ([(d0, .inr (4, [.ref (α 0), .ref (β 0), .ref sl, .ref h0, .ref p0])), (h0, .inr (0, [.ref h1, .int (nI o), .int (nI k)])), (h1, qA cQ 7 fh)] ++ wS cI α S ++ wg)) _ _ := h.perm (perm_2 10 ([[(d0, .inr (4, [.ref (α 0), .ref (β 0), .ref sl, .ref h0, .ref p0]))], wS cI α S, wS cI β V, [(sl, qA cQ 2 fs)], wl, [(h0, .inr (0, [.ref h1, .int (nI o), .int (nI k)]))], [(h1, qA cQ 7 fh)], wg, wPd cC p0 p1 ch pl pa po pf ps, wMd cI cZ m0 (μ 1) (μ 2) (μ 3) (μ 4) (μ 5) (μ 6) (μ 7) now thn past kept slt held mpad mpl mat ords ordn] : List va_W) [2, 3, 4, 8, 9] [0, 5, 6, 1, 7] rfl (by decide))
  refine r_callVY (rest := []) (ci := 4) (N := 5) (Cn := RX4) (T := TX4) C h (cwL_X4_value C.hts) (c_X4_value l G cI cC cZ cQ [] d0 (β 0) sl h0 h1 p0 o k ho hk6 fh Ch wg hRg α S X1 X2 va' r r (nI o2) (nI k2) e1 hkd) rfl (List.mem_append_right _ List.mem_cons_self) rfl hl.1 rfl (Nat.le_of_ble_eq_true rfl) ⟨(by show _ ≤ 600000; omega), (by show _ ≤ 7302249; omega)⟩ dL_law_180 (fun res w1 H locs hpo h => ?_)
  obtain ⟨rfl, f', wg', Y, hY, hg, rfl⟩ := hpo
  replace h : Hx s G (fun q : Nat => s.heap.size ≤ q) (catW ([[(d0, .inr (4, [.ref (α 0), .ref (β 0), .ref sl, .ref h0, .ref p0]))], wS cI α (S.1, va', S.2.2.1, S.2.2.2.1, S.2.2.2.2.1, S.2.2.2.2.2), wS cI β V, [(sl, qA cQ 2 fs)], wl, [(h0, .inr (0, [.ref h1, .int (nI o2), .int (nI k2)]))], [(h1, qA cQ 7 f')], wg', wPd cC p0 p1 ch pl pa po pf ps, wMd cI cZ m0 (μ 1) (μ 2) (μ 3) (μ 4) (μ 5) (μ 6) (μ 7) now thn past kept slt held mpad mpl mat ords ordn] : List va_W)) _ _ := Hx.perm (w := (catW ([wS cI β V, [(sl, qA cQ 2 fs)], wl, wPd cC p0 p1 ch pl pa po pf ps, wMd cI cZ m0 (μ 1) (μ 2) (μ 3) (μ 4) (μ 5) (μ 6) (μ 7) now thn past kept slt held mpad mpl mat ords ordn] : List va_W)) ++ (catW ([[(d0, .inr (4, [.ref (α 0), .ref (β 0), .ref sl, .ref h0, .ref p0]))], [(h0, .inr (0, [.ref h1, .int (nI o2), .int (nI k2)]))], [(h1, qA cQ 7 f')], wS cI α (S.1, va', S.2.2.1, S.2.2.2.1, S.2.2.2.2.1, S.2.2.2.2.2), wg'] : List va_W))) h (perm_2 10 ([[(d0, .inr (4, [.ref (α 0), .ref (β 0), .ref sl, .ref h0, .ref p0]))], wS cI α (S.1, va', S.2.2.1, S.2.2.2.1, S.2.2.2.2.1, S.2.2.2.2.2), wS cI β V, [(sl, qA cQ 2 fs)], wl, [(h0, .inr (0, [.ref h1, .int (nI o2), .int (nI k2)]))], [(h1, qA cQ 7 f')], wg', wPd cC p0 p1 ch pl pa po pf ps, wMd cI cZ m0 (μ 1) (μ 2) (μ 3) (μ 4) (μ 5) (μ 6) (μ 7) now thn past kept slt held mpad mpl mat ords ordn] : List va_W) [2, 3, 4, 8, 9] [0, 5, 6, 1, 7] rfl (by decide)).symm
  refine lv_aload_n hx hb dL_law_183 rfl (lv_at hl 1 rfl) ?_
  refine lv_aload_n hx hb dL_law_184 rfl (lv_at hl 3 rfl) ?_
  refine lv_iload_n hx hb dL_law_185 rfl (lv_at hl 0 rfl) ?_
  refine lv_iconst (v := 1) hx hb dL_law_186 (by decide) ?_
  refine lv_iadd hx hb dL_law_187 ?_
  rw [aI1 i]
  refine va_sld hx hb hX hbl hbA h.2.2 v1 dL_law_188 ?_
  rw [← hX1]
  refine lv_aload_n hx hb dL_law_189 rfl (lv_at hl 3 rfl) ?_
  refine lv_iload_n hx hb dL_law_190 rfl (lv_at hl 0 rfl) ?_
  refine lv_iconst (v := 2) hx hb dL_law_191 (by decide) ?_
  refine lv_iadd hx hb dL_law_192 ?_
  rw [aI2 i]
  refine va_sld hx hb hX hbl hbA h.2.2 v2 dL_law_193 ?_
  rw [← hX2]
  replace h : Hx s G (fun q : Nat => s.heap.size ≤ q) ((catW ([[(d0, .inr (4, [.ref (α 0), .ref (β 0), .ref sl, .ref h0, .ref p0]))], wS cI α (S.1, va', S.2.2.1, S.2.2.2.1, S.2.2.2.2.1, S.2.2.2.2.2), wS cI β V, [(sl, qA cQ 2 fs)], wl, [(h0, .inr (0, [.ref h1, .int (nI o2), .int (nI k2)]))], [(h1, qA cQ 7 f')], wg', wPd cC p0 p1 ch pl pa po pf ps] : List va_W)) ++ wMd cI cZ m0 (μ 1) (μ 2) (μ 3) (μ 4) (μ 5) (μ 6) (μ 7) now thn past kept slt held mpad mpl mat ords ordn) _ _ := h.perm (perm_2 10 ([[(d0, .inr (4, [.ref (α 0), .ref (β 0), .ref sl, .ref h0, .ref p0]))], wS cI α (S.1, va', S.2.2.1, S.2.2.2.1, S.2.2.2.2.1, S.2.2.2.2.2), wS cI β V, [(sl, qA cQ 2 fs)], wl, [(h0, .inr (0, [.ref h1, .int (nI o2), .int (nI k2)]))], [(h1, qA cQ 7 f')], wg', wPd cC p0 p1 ch pl pa po pf ps, wMd cI cZ m0 (μ 1) (μ 2) (μ 3) (μ 4) (μ 5) (μ 6) (μ 7) now thn past kept slt held mpad mpl mat ords ordn] : List va_W) [0, 1, 2, 3, 4, 5, 6, 7, 8] [9] rfl (by decide))
  refine r_callVY (rest := [.int r]) (ci := 5) (N := 11) (Cn := RX5) (T := TX5) C h (cwL_X5_value C.hts) (CT.toY (c_X5_value l G cI cC cZ [(cQ, .object RX2)] m0 (μ 1) (μ 2) (μ 3) (μ 4) (μ 5) (μ 6) (μ 7) now thn past kept slt held mpad mpl mat ords ordn X1 X2 r now' past' kept' e2)) rfl (List.mem_append_right _ List.mem_cons_self) rfl hl.1 rfl (Nat.le_of_ble_eq_true rfl) ⟨(by show _ ≤ 600000; omega), (by show _ ≤ 7302249; omega)⟩ dL_law_194 (fun res w1 H locs hpo h => ?_)
  obtain ⟨rfl, rfl⟩ := hpo
  replace h : Hx s G (fun q : Nat => s.heap.size ≤ q) (catW ([[(d0, .inr (4, [.ref (α 0), .ref (β 0), .ref sl, .ref h0, .ref p0]))], wS cI α (S.1, va', S.2.2.1, S.2.2.2.1, S.2.2.2.2.1, S.2.2.2.2.2), wS cI β V, [(sl, qA cQ 2 fs)], wl, [(h0, .inr (0, [.ref h1, .int (nI o2), .int (nI k2)]))], [(h1, qA cQ 7 f')], wg', wPd cC p0 p1 ch pl pa po pf ps, wMd cI cZ m0 (μ 1) (μ 2) (μ 3) (μ 4) (μ 5) (μ 6) (μ 7) now' thn past' kept' slt held mpad mpl mat ords ordn] : List va_W)) _ _ := Hx.perm (w := (catW ([[(d0, .inr (4, [.ref (α 0), .ref (β 0), .ref sl, .ref h0, .ref p0]))], wS cI α (S.1, va', S.2.2.1, S.2.2.2.1, S.2.2.2.2.1, S.2.2.2.2.2), wS cI β V, [(sl, qA cQ 2 fs)], wl, [(h0, .inr (0, [.ref h1, .int (nI o2), .int (nI k2)]))], [(h1, qA cQ 7 f')], wg', wPd cC p0 p1 ch pl pa po pf ps] : List va_W)) ++ (catW ([wMd cI cZ m0 (μ 1) (μ 2) (μ 3) (μ 4) (μ 5) (μ 6) (μ 7) now' thn past' kept' slt held mpad mpl mat ords ordn] : List va_W))) h (perm_2 10 ([[(d0, .inr (4, [.ref (α 0), .ref (β 0), .ref sl, .ref h0, .ref p0]))], wS cI α (S.1, va', S.2.2.1, S.2.2.2.1, S.2.2.2.2.1, S.2.2.2.2.2), wS cI β V, [(sl, qA cQ 2 fs)], wl, [(h0, .inr (0, [.ref h1, .int (nI o2), .int (nI k2)]))], [(h1, qA cQ 7 f')], wg', wPd cC p0 p1 ch pl pa po pf ps, wMd cI cZ m0 (μ 1) (μ 2) (μ 3) (μ 4) (μ 5) (μ 6) (μ 7) now' thn past' kept' slt held mpad mpl mat ords ordn] : List va_W) [0, 1, 2, 3, 4, 5, 6, 7, 8] [9] rfl (by decide)).symm
  refine lv_icmp_eq (tgt := 673) hx hb dL_law_197 (by decide) (fun _ => ?_) (fun hc => absurd rfl hc)
  exact kk _ _ _ h ⟨α, β, μ, (S.1, va', S.2.2.1, S.2.2.2.1, S.2.2.2.2.1, S.2.2.2.2.2), V, sl, h0, h1, p0, p1, o2, k2, fs, f', Cl, (va_up Ch ((o + k) % 7) (some Y)), wl, wg', ch, pl, pa, po, pf, ps, now', thn, past', kept', slt, held, mpad, mpl, mat, ords, ordn, hRl, hg, (ns_mono hN' (by omega)), (hs_mono (hH' Y hY) (by omega)), (lsl_mono hLs (by omega)), hP, rfl⟩
set_option maxHeartbeats 8000000 in
set_option maxRecDepth 100000 in
theorem law_slip {p : Program} {l : Launch} {e : Env} {s : State} {m : MethodId} {args : Array Value} {below : List Frame} {meth : Method} {c : Code} {Q : State → Prop} {G : va_G} {cI cC cZ cQ : ClassId} (C : Cx p s m args c G (TQ cI cC cZ cQ []) (fun q : Nat => s.heap.size ≤ q) RL cL_law wsL_law 4) {b L : Nat} {xs : Nat → Int32} (hX : va_X b L xs s s.heap) (hbl : b < s.heap.size) (hL : L ≤ 1536) {i : Nat} (hi : i + 3 ≤ L) {cells slots : Nat} (hcc : cells + 9 ≤ 600000) (hss : slots + 340 ≤ 7302249) {B : Nat} (hB : 200000 ≤ B) (hB2 : B + 5000 < 2000000000) {d0 m0 : Nat} {w : va_W} {H : Heap} {locs : List Loc} {ls : Array Slot} (h : Hx s G (fun q : Nat => s.heap.size ≤ q) w H locs) (hw : LW cI cC cZ cQ d0 m0 B w) (hl : lv_has ls 4 [(3, .int (nI i)), (2, .ref m0), (1, .ref d0), (0, .ref b)]) (kk : ∀ (w1 : va_W) (H1 : Heap) (locs1 : List Loc), Hx s G (fun q : Nat => s.heap.size ≤ q) w1 H1 locs1 → LW cI cC cZ cQ d0 m0 (B + 5000) w1 → W p l e room_1 s m args below meth c H1 locs1 (cells + 9) (slots + 340) Q (F0 m 673 ls [])) : W p l e room_1 s m args below meth c H locs cells slots Q (F0 m 202 ls []) := by
  obtain ⟨α, β, μ, S, V, sl, h0, h1, p0, p1, o, k, fs, fh, Cl, Ch, wl, wg, ch, pl, pa, po, pf, ps, now, thn, past, kept, slt, held, mpad, mpl, mat, ords, ordn, hRl, hRg, hN, hH, hLs, hP, rfl⟩ := hw
  have hx := C.hx
  have hb := C.hb
  have hbA : ¬ (fun q : Nat => s.heap.size ≤ q) b := Nat.not_le.mpr hbl
  obtain ⟨ho, hk6⟩ := hs_b hH
  have v1 : vp_in (nI (i + 1)) L := vp_in_nI (by omega) (by omega)
  have v2 : vp_in (nI (i + 2)) L := vp_in_nI (by omega) (by omega)
  obtain ⟨X1, hX1⟩ : ∃ x : Int32, x = xs (nI (i + 1)).toNatClampNeg := ⟨_, rfl⟩
  obtain ⟨X2, hX2⟩ : ∃ x : Int32, x = xs (nI (i + 2)).toNatClampNeg := ⟨_, rfl⟩
  obtain ⟨r, nu', o2, k2, now', past', kept', e1, e2, hkd, hN', hH'⟩ := l_slip (by omega) hN hH X1 X2
  refine lv_aload_n hx hb dL_law_202 rfl (lv_at hl 2 rfl) ?_
  refine lv_aload_n hx hb dL_law_203 rfl (lv_at hl 3 rfl) ?_
  refine lv_iload_n hx hb dL_law_204 rfl (lv_at hl 0 rfl) ?_
  refine lv_iconst (v := 1) hx hb dL_law_205 (by decide) ?_
  refine lv_iadd hx hb dL_law_206 ?_
  rw [aI1 i]
  refine va_sld hx hb hX hbl hbA h.2.2 v1 dL_law_207 ?_
  rw [← hX1]
  refine lv_aload_n hx hb dL_law_208 rfl (lv_at hl 3 rfl) ?_
  refine lv_iload_n hx hb dL_law_209 rfl (lv_at hl 0 rfl) ?_
  refine lv_iconst (v := 2) hx hb dL_law_210 (by decide) ?_
  refine lv_iadd hx hb dL_law_211 ?_
  rw [aI2 i]
  refine va_sld hx hb hX hbl hbA h.2.2 v2 dL_law_212 ?_
  rw [← hX2]
  replace h : Hx s G (fun q : Nat => s.heap.size ≤ q) ((catW ([wS cI β V, [(sl, qA cQ 2 fs)], wl, wPd cC p0 p1 ch pl pa po pf ps, wMd cI cZ m0 (μ 1) (μ 2) (μ 3) (μ 4) (μ 5) (μ 6) (μ 7) now thn past kept slt held mpad mpl mat ords ordn] : List va_W)) ++ ([(d0, .inr (4, [.ref (α 0), .ref (β 0), .ref sl, .ref h0, .ref p0])), (h0, .inr (0, [.ref h1, .int (nI o), .int (nI k)])), (h1, qA cQ 7 fh)] ++ wS cI α S ++ wg)) _ _ := h.perm (perm_2 10 ([[(d0, .inr (4, [.ref (α 0), .ref (β 0), .ref sl, .ref h0, .ref p0]))], wS cI α S, wS cI β V, [(sl, qA cQ 2 fs)], wl, [(h0, .inr (0, [.ref h1, .int (nI o), .int (nI k)]))], [(h1, qA cQ 7 fh)], wg, wPd cC p0 p1 ch pl pa po pf ps, wMd cI cZ m0 (μ 1) (μ 2) (μ 3) (μ 4) (μ 5) (μ 6) (μ 7) now thn past kept slt held mpad mpl mat ords ordn] : List va_W) [2, 3, 4, 8, 9] [0, 5, 6, 1, 7] rfl (by decide))
  refine r_callVY (rest := []) (ci := 4) (N := 5) (Cn := RX4) (T := TX4) C h (cwL_X4_slip C.hts) (c_X4_slip l G cI cC cZ cQ [] d0 (β 0) sl h0 h1 p0 o k ho hk6 fh Ch wg hRg α S X1 X2 nu' r r (nI o2) (nI k2) e1 hkd) rfl (List.mem_append_right _ List.mem_cons_self) rfl hl.1 rfl (Nat.le_of_ble_eq_true rfl) ⟨(by show _ ≤ 600000; omega), (by show _ ≤ 7302249; omega)⟩ dL_law_213 (fun res w1 H locs hpo h => ?_)
  obtain ⟨rfl, f', wg', Y, hY, hg, rfl⟩ := hpo
  replace h : Hx s G (fun q : Nat => s.heap.size ≤ q) (catW ([[(d0, .inr (4, [.ref (α 0), .ref (β 0), .ref sl, .ref h0, .ref p0]))], wS cI α (nu', S.2.1, S.2.2.1, S.2.2.2.1, S.2.2.2.2.1, S.2.2.2.2.2), wS cI β V, [(sl, qA cQ 2 fs)], wl, [(h0, .inr (0, [.ref h1, .int (nI o2), .int (nI k2)]))], [(h1, qA cQ 7 f')], wg', wPd cC p0 p1 ch pl pa po pf ps, wMd cI cZ m0 (μ 1) (μ 2) (μ 3) (μ 4) (μ 5) (μ 6) (μ 7) now thn past kept slt held mpad mpl mat ords ordn] : List va_W)) _ _ := Hx.perm (w := (catW ([wS cI β V, [(sl, qA cQ 2 fs)], wl, wPd cC p0 p1 ch pl pa po pf ps, wMd cI cZ m0 (μ 1) (μ 2) (μ 3) (μ 4) (μ 5) (μ 6) (μ 7) now thn past kept slt held mpad mpl mat ords ordn] : List va_W)) ++ (catW ([[(d0, .inr (4, [.ref (α 0), .ref (β 0), .ref sl, .ref h0, .ref p0]))], [(h0, .inr (0, [.ref h1, .int (nI o2), .int (nI k2)]))], [(h1, qA cQ 7 f')], wS cI α (nu', S.2.1, S.2.2.1, S.2.2.2.1, S.2.2.2.2.1, S.2.2.2.2.2), wg'] : List va_W))) h (perm_2 10 ([[(d0, .inr (4, [.ref (α 0), .ref (β 0), .ref sl, .ref h0, .ref p0]))], wS cI α (nu', S.2.1, S.2.2.1, S.2.2.2.1, S.2.2.2.2.1, S.2.2.2.2.2), wS cI β V, [(sl, qA cQ 2 fs)], wl, [(h0, .inr (0, [.ref h1, .int (nI o2), .int (nI k2)]))], [(h1, qA cQ 7 f')], wg', wPd cC p0 p1 ch pl pa po pf ps, wMd cI cZ m0 (μ 1) (μ 2) (μ 3) (μ 4) (μ 5) (μ 6) (μ 7) now thn past kept slt held mpad mpl mat ords ordn] : List va_W) [2, 3, 4, 8, 9] [0, 5, 6, 1, 7] rfl (by decide)).symm
  refine lv_aload_n hx hb dL_law_216 rfl (lv_at hl 1 rfl) ?_
  refine lv_aload_n hx hb dL_law_217 rfl (lv_at hl 3 rfl) ?_
  refine lv_iload_n hx hb dL_law_218 rfl (lv_at hl 0 rfl) ?_
  refine lv_iconst (v := 1) hx hb dL_law_219 (by decide) ?_
  refine lv_iadd hx hb dL_law_220 ?_
  rw [aI1 i]
  refine va_sld hx hb hX hbl hbA h.2.2 v1 dL_law_221 ?_
  rw [← hX1]
  refine lv_aload_n hx hb dL_law_222 rfl (lv_at hl 3 rfl) ?_
  refine lv_iload_n hx hb dL_law_223 rfl (lv_at hl 0 rfl) ?_
  refine lv_iconst (v := 2) hx hb dL_law_224 (by decide) ?_
  refine lv_iadd hx hb dL_law_225 ?_
  rw [aI2 i]
  refine va_sld hx hb hX hbl hbA h.2.2 v2 dL_law_226 ?_
  rw [← hX2]
  replace h : Hx s G (fun q : Nat => s.heap.size ≤ q) ((catW ([[(d0, .inr (4, [.ref (α 0), .ref (β 0), .ref sl, .ref h0, .ref p0]))], wS cI α (nu', S.2.1, S.2.2.1, S.2.2.2.1, S.2.2.2.2.1, S.2.2.2.2.2), wS cI β V, [(sl, qA cQ 2 fs)], wl, [(h0, .inr (0, [.ref h1, .int (nI o2), .int (nI k2)]))], [(h1, qA cQ 7 f')], wg', wPd cC p0 p1 ch pl pa po pf ps] : List va_W)) ++ wMd cI cZ m0 (μ 1) (μ 2) (μ 3) (μ 4) (μ 5) (μ 6) (μ 7) now thn past kept slt held mpad mpl mat ords ordn) _ _ := h.perm (perm_2 10 ([[(d0, .inr (4, [.ref (α 0), .ref (β 0), .ref sl, .ref h0, .ref p0]))], wS cI α (nu', S.2.1, S.2.2.1, S.2.2.2.1, S.2.2.2.2.1, S.2.2.2.2.2), wS cI β V, [(sl, qA cQ 2 fs)], wl, [(h0, .inr (0, [.ref h1, .int (nI o2), .int (nI k2)]))], [(h1, qA cQ 7 f')], wg', wPd cC p0 p1 ch pl pa po pf ps, wMd cI cZ m0 (μ 1) (μ 2) (μ 3) (μ 4) (μ 5) (μ 6) (μ 7) now thn past kept slt held mpad mpl mat ords ordn] : List va_W) [0, 1, 2, 3, 4, 5, 6, 7, 8] [9] rfl (by decide))
  refine r_callVY (rest := [.int r]) (ci := 5) (N := 11) (Cn := RX5) (T := TX5) C h (cwL_X5_slip C.hts) (CT.toY (c_X5_slip l G cI cC cZ [(cQ, .object RX2)] m0 (μ 1) (μ 2) (μ 3) (μ 4) (μ 5) (μ 6) (μ 7) now thn past kept slt held mpad mpl mat ords ordn X1 X2 r now' past' kept' e2)) rfl (List.mem_append_right _ List.mem_cons_self) rfl hl.1 rfl (Nat.le_of_ble_eq_true rfl) ⟨(by show _ ≤ 600000; omega), (by show _ ≤ 7302249; omega)⟩ dL_law_227 (fun res w1 H locs hpo h => ?_)
  obtain ⟨rfl, rfl⟩ := hpo
  replace h : Hx s G (fun q : Nat => s.heap.size ≤ q) (catW ([[(d0, .inr (4, [.ref (α 0), .ref (β 0), .ref sl, .ref h0, .ref p0]))], wS cI α (nu', S.2.1, S.2.2.1, S.2.2.2.1, S.2.2.2.2.1, S.2.2.2.2.2), wS cI β V, [(sl, qA cQ 2 fs)], wl, [(h0, .inr (0, [.ref h1, .int (nI o2), .int (nI k2)]))], [(h1, qA cQ 7 f')], wg', wPd cC p0 p1 ch pl pa po pf ps, wMd cI cZ m0 (μ 1) (μ 2) (μ 3) (μ 4) (μ 5) (μ 6) (μ 7) now' thn past' kept' slt held mpad mpl mat ords ordn] : List va_W)) _ _ := Hx.perm (w := (catW ([[(d0, .inr (4, [.ref (α 0), .ref (β 0), .ref sl, .ref h0, .ref p0]))], wS cI α (nu', S.2.1, S.2.2.1, S.2.2.2.1, S.2.2.2.2.1, S.2.2.2.2.2), wS cI β V, [(sl, qA cQ 2 fs)], wl, [(h0, .inr (0, [.ref h1, .int (nI o2), .int (nI k2)]))], [(h1, qA cQ 7 f')], wg', wPd cC p0 p1 ch pl pa po pf ps] : List va_W)) ++ (catW ([wMd cI cZ m0 (μ 1) (μ 2) (μ 3) (μ 4) (μ 5) (μ 6) (μ 7) now' thn past' kept' slt held mpad mpl mat ords ordn] : List va_W))) h (perm_2 10 ([[(d0, .inr (4, [.ref (α 0), .ref (β 0), .ref sl, .ref h0, .ref p0]))], wS cI α (nu', S.2.1, S.2.2.1, S.2.2.2.1, S.2.2.2.2.1, S.2.2.2.2.2), wS cI β V, [(sl, qA cQ 2 fs)], wl, [(h0, .inr (0, [.ref h1, .int (nI o2), .int (nI k2)]))], [(h1, qA cQ 7 f')], wg', wPd cC p0 p1 ch pl pa po pf ps, wMd cI cZ m0 (μ 1) (μ 2) (μ 3) (μ 4) (μ 5) (μ 6) (μ 7) now' thn past' kept' slt held mpad mpl mat ords ordn] : List va_W) [0, 1, 2, 3, 4, 5, 6, 7, 8] [9] rfl (by decide)).symm
  refine lv_icmp_eq (tgt := 673) hx hb dL_law_230 (by decide) (fun _ => ?_) (fun hc => absurd rfl hc)
  exact kk _ _ _ h ⟨α, β, μ, (nu', S.2.1, S.2.2.1, S.2.2.2.1, S.2.2.2.2.1, S.2.2.2.2.2), V, sl, h0, h1, p0, p1, o2, k2, fs, f', Cl, (va_up Ch ((o + k) % 7) (some Y)), wl, wg', ch, pl, pa, po, pf, ps, now', thn, past', kept', slt, held, mpad, mpl, mat, ords, ordn, hRl, hg, (ns_mono hN' (by omega)), (hs_mono (hH' Y hY) (by omega)), (lsl_mono hLs (by omega)), hP, rfl⟩
