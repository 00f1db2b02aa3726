/-! ===== the law: its loop ===== -/
theorem aI3 (i : Nat) : nI i + 3 = nI (i + 3) := by rw [li_3, nI_add]
theorem le3 (i L : Nat) (hi : i < 100000) (hL : L ≤ 1536) (h : ¬ nI L - 3 < nI i) : i + 3 ≤ L := by
  apply Classical.byContradiction
  intro g
  apply h
  rw [Int32.lt_iff_toInt_lt, li_3, pk_sub_toInt (by omega) (by omega), nI_toInt (by omega)]
  omega
theorem sw_law (x : Int32) (h0 : ¬ x = 0) (h1 : ¬ x = 1) (h2 : ¬ x = 2) (h3 : ¬ x = 3) (h4 : ¬ x = 4) (h5 : ¬ x = 5) (h6 : ¬ x = 6) (h7 : ¬ x = 7) (h8 : ¬ x = 8) (h9 : ¬ x = 9) (h10 : ¬ x = 10) (h11 : ¬ x = 11) (h12 : ¬ x = 12) (h13 : ¬ x = 13) (h14 : ¬ x = 14) (h15 : ¬ x = 15) (h16 : ¬ x = 16) (h17 : ¬ x = 17) (h18 : ¬ x = 18) (h19 : ¬ x = 19) (h20 : ¬ x = 20) (h21 : ¬ x = 21) : x.toInt < 0 ∨ 21 < x.toInt := by
  have q0 := lv_neT (a := 0) h0 rfl
  have q1 := lv_neT (a := 1) h1 rfl
  have q2 := lv_neT (a := 2) h2 rfl
  have q3 := lv_neT (a := 3) h3 rfl
  have q4 := lv_neT (a := 4) h4 rfl
  have q5 := lv_neT (a := 5) h5 rfl
  have q6 := lv_neT (a := 6) h6 rfl
  have q7 := lv_neT (a := 7) h7 rfl
  have q8 := lv_neT (a := 8) h8 rfl
  have q9 := lv_neT (a := 9) h9 rfl
  have q10 := lv_neT (a := 10) h10 rfl
  have q11 := lv_neT (a := 11) h11 rfl
  have q12 := lv_neT (a := 12) h12 rfl
  have q13 := lv_neT (a := 13) h13 rfl
  have q14 := lv_neT (a := 14) h14 rfl
  have q15 := lv_neT (a := 15) h15 rfl
  have q16 := lv_neT (a := 16) h16 rfl
  have q17 := lv_neT (a := 17) h17 rfl
  have q18 := lv_neT (a := 18) h18 rfl
  have q19 := lv_neT (a := 19) h19 rfl
  have q20 := lv_neT (a := 20) h20 rfl
  have q21 := lv_neT (a := 21) h21 rfl
  omega
set_option maxHeartbeats 8000000 in
set_option maxRecDepth 100000 in
theorem law_loop {p : Program} {l : Launch} {e : Env} {s : State} {m : MethodId} {args : Array Value} {below : List Frame} {meth : Method} {c : Code} {Q : State → Prop} {G : va_G} {cI cC cZ cQ : ClassId} (C : Cx p s m args c G (TQ cI cC cZ cQ []) (fun q : Nat => s.heap.size ≤ q) RL cL_law wsL_law 4) {b L : Nat} {xs : Nat → Int32} (hX : va_X b L xs s s.heap) (hbl : b < s.heap.size) (hL : L ≤ 1536) {d0 m0 : Nat} (hend : ∀ (cells slots : Nat) (H : Heap) (locs : List Loc) (ls : Array Slot), cells ≤ 600000 → slots ≤ 7302249 → (∀ q ∈ locs, s.heap.size ≤ q.base) → W p l e room_1 s m args below meth c H locs cells slots Q (F0 m 679 ls [])) : ∀ (n i B cells slots : Nat) (w : va_W) (H : Heap) (locs : List Loc) (ls : Array Slot), i ≤ L → L < 3 * n + i → cells + 9 * n ≤ 600000 → slots + 340 * n ≤ 7302249 → 200000 ≤ B → B + 5000 * n < 1999990000 → Hx s G (fun q : Nat => s.heap.size ≤ q) w H locs → LW cI cC cZ cQ d0 m0 B w → lv_has ls 4 [(3, .int (nI i)), (2, .ref m0), (1, .ref d0), (0, .ref b)] → W p l e room_1 s m args below meth c H locs cells slots Q (F0 m 18 ls []) := by
  have hx := C.hx
  have hb := C.hb
  have hbA : ¬ (fun q : Nat => s.heap.size ≤ q) b := Nat.not_le.mpr hbl
  intro n
  induction n with
  | zero => intro i B cells slots w H locs ls h1 h2; omega
  | succ n ih =>
    intro i B cells slots w H locs ls h1 h2 hcc hss hB hB2 h hw hl
    refine lv_iload_n hx hb dL_law_18 rfl (lv_at hl 0 rfl) ?_
    refine lv_aload_n hx hb dL_law_19 rfl (lv_at hl 3 rfl) ?_
    refine va_slen hx hb hX hbl hbA h.2.2 dL_law_20 ?_
    refine lv_iconst (v := 3) hx hb dL_law_21 (by decide) ?_
    refine lv_isub hx hb dL_law_22 ?_
    refine lv_icmp_gt (tgt := 679) hx hb dL_law_23 (by decide) (fun hc => ?_) (fun hc => ?_)
    · exact hend cells slots H locs ls (by omega) (by omega) h.2.2.2.2
    · have hi : i + 3 ≤ L := le3 i L (by omega) hL hc
      have v0 : vp_in (nI i) L := vp_in_nI (by omega) (by omega)
      have kk : ∀ (w1 : va_W) (H1 : Heap) (locs1 : List Loc), Hx s G (fun q : Nat => s.heap.size ≤ q) w1 H1 locs1 → LW cI cC cZ cQ d0 m0 (B + 5000) w1 → W p l e room_1 s m args below meth c H1 locs1 (cells + 9) (slots + 340) Q (F0 m 673 ls []) := by
        intro w1 H1 locs1 h hw
        obtain ⟨z, ez⟩ : ∃ y : Int32, y = nI i + 3 := ⟨_, rfl⟩
        refine lv_iinc (v := z) (lv' := [(3, .int z), (2, .ref m0), (1, .ref d0), (0, .ref b)]) hx hb dL_law_673 hl (k := 0) rfl (by rw [ez]; rfl) (by decide) rfl (fun ls hl => ?_)
        rw [ez, aI3] at hl
        refine lv_goto (tgt := 18) hx hb dL_law_676 (by decide) ?_
        exact ih (i + 3) (B + 5000) (cells + 9) (slots + 340) w1 H1 locs1 ls (by omega) (by omega) (by omega) (by omega) (by omega) (by omega) h hw hl
      refine lv_aload_n hx hb dL_law_26 rfl (lv_at hl 3 rfl) ?_
      refine lv_iload_n hx hb dL_law_27 rfl (lv_at hl 0 rfl) ?_
      refine va_sld hx hb hX hbl hbA h.2.2 v0 dL_law_28 ?_
      refine lv_bipush (v := 31) hx hb dL_law_29 (by decide) ?_
      refine lv_iand hx hb dL_law_31 ?_
      refine lv_topi (fun t et => ?_)
      by_cases g0 : t = 0
      · refine lv_tableIn (tgt := 136) hx hb dL_law_32 (by rw [g0]; decide) (by rw [g0]; decide) (by rw [g0]; rfl) (by decide) ?_
        exact law_set C hX hbl hL hi (by omega) (by omega) hB (by omega) h hw hl kk
      by_cases g1 : t = 1
      · refine lv_tableIn (tgt := 169) hx hb dL_law_32 (by rw [g1]; decide) (by rw [g1]; decide) (by rw [g1]; rfl) (by decide) ?_
        exact law_value C hX hbl hL hi (by omega) (by omega) hB (by omega) h hw hl kk
      by_cases g2 : t = 2
      · refine lv_tableIn (tgt := 202) hx hb dL_law_32 (by rw [g2]; decide) (by rw [g2]; decide) (by rw [g2]; rfl) (by decide) ?_
        exact law_slip C hX hbl hL hi (by omega) (by omega) hB (by omega) h hw hl kk
      by_cases g3 : t = 3
      · refine lv_tableIn (tgt := 235) hx hb dL_law_32 (by rw [g3]; decide) (by rw [g3]; decide) (by rw [g3]; rfl) (by decide) ?_
        exact law_pass C hX hbl hL hi (by omega) (by omega) hB (by omega) h hw hl kk
      by_cases g4 : t = 4
      · refine lv_tableIn (tgt := 258) hx hb dL_law_32 (by rw [g4]; decide) (by rw [g4]; decide) (by rw [g4]; rfl) (by decide) ?_
        exact law_flush C hX hbl hL hi (by omega) (by omega) hB (by omega) h hw hl kk
      by_cases g5 : t = 5
      · refine lv_tableIn (tgt := 271) hx hb dL_law_32 (by rw [g5]; decide) (by rw [g5]; decide) (by rw [g5]; rfl) (by decide) ?_
        exact law_waiting C hX hbl hL hi (by omega) (by omega) hB (by omega) h hw hl kk
      by_cases g6 : t = 6
      · refine lv_tableIn (tgt := 304) hx hb dL_law_32 (by rw [g6]; decide) (by rw [g6]; decide) (by rw [g6]; rfl) (by decide) ?_
        exact law_row C hX hbl hL hi (by omega) (by omega) hB (by omega) h hw hl kk
      by_cases g7 : t = 7
      · refine lv_tableIn (tgt := 337) hx hb dL_law_32 (by rw [g7]; decide) (by rw [g7]; decide) (by rw [g7]; rfl) (by decide) ?_
        exact law_ofMissing C hX hbl hL hi (by omega) (by omega) hB (by omega) h hw hl kk
      by_cases g8 : t = 8
      · refine lv_tableIn (tgt := 370) hx hb dL_law_32 (by rw [g8]; decide) (by rw [g8]; decide) (by rw [g8]; rfl) (by decide) ?_
        exact law_count C hX hbl hL hi (by omega) (by omega) hB (by omega) h hw hl kk
      by_cases g9 : t = 9
      · refine lv_tableIn (tgt := 393) hx hb dL_law_32 (by rw [g9]; decide) (by rw [g9]; decide) (by rw [g9]; rfl) (by decide) ?_
        exact law_shown C hX hbl hL hi (by omega) (by omega) hB (by omega) h hw hl kk
      by_cases g10 : t = 10
      · refine lv_tableIn (tgt := 406) hx hb dL_law_32 (by rw [g10]; decide) (by rw [g10]; decide) (by rw [g10]; rfl) (by decide) ?_
        exact law_ratio C hX hbl hL hi (by omega) (by omega) hB (by omega) h hw hl kk
      by_cases g11 : t = 11
      · refine lv_tableIn (tgt := 419) hx hb dL_law_32 (by rw [g11]; decide) (by rw [g11]; decide) (by rw [g11]; rfl) (by decide) ?_
        exact law_fill C hX hbl hL hi (by omega) (by omega) hB (by omega) h hw hl kk
      by_cases g12 : t = 12
      · refine lv_tableIn (tgt := 433) hx hb dL_law_32 (by rw [g12]; decide) (by rw [g12]; decide) (by rw [g12]; rfl) (by decide) ?_
        exact law_would C hX hbl hL hi (by omega) (by omega) hB (by omega) h hw hl kk
      by_cases g13 : t = 13
      · refine lv_tableIn (tgt := 466) hx hb dL_law_32 (by rw [g13]; decide) (by rw [g13]; decide) (by rw [g13]; rfl) (by decide) ?_
        exact law_leastRoom C hX hbl hL hi (by omega) (by omega) hB (by omega) h hw hl kk
      by_cases g14 : t = 14
      · refine lv_tableIn (tgt := 489) hx hb dL_law_32 (by rw [g14]; decide) (by rw [g14]; decide) (by rw [g14]; rfl) (by decide) ?_
        exact law_bestOut C hX hbl hL hi (by omega) (by omega) hB (by omega) h hw hl kk
      by_cases g15 : t = 15
      · refine lv_tableIn (tgt := 522) hx hb dL_law_32 (by rw [g15]; decide) (by rw [g15]; decide) (by rw [g15]; rfl) (by decide) ?_
        exact law_put C hX hbl hL hi (by omega) (by omega) hB (by omega) h hw hl kk
      by_cases g16 : t = 16
      · refine lv_tableIn (tgt := 575) hx hb dL_law_32 (by rw [g16]; decide) (by rw [g16]; decide) (by rw [g16]; rfl) (by decide) ?_
        exact law_wipe C hX hbl hL hi (by omega) (by omega) hB (by omega) h hw hl kk
      by_cases g17 : t = 17
      · refine lv_tableIn (tgt := 588) hx hb dL_law_32 (by rw [g17]; decide) (by rw [g17]; decide) (by rw [g17]; rfl) (by decide) ?_
        exact law_fault C hX hbl hL hi (by omega) (by omega) hB (by omega) h hw hl kk
      by_cases g18 : t = 18
      · refine lv_tableIn (tgt := 601) hx hb dL_law_32 (by rw [g18]; decide) (by rw [g18]; decide) (by rw [g18]; rfl) (by decide) ?_
        exact law_carryOut C hX hbl hL hi (by omega) (by omega) hB (by omega) h hw hl kk
      by_cases g19 : t = 19
      · refine lv_tableIn (tgt := 614) hx hb dL_law_32 (by rw [g19]; decide) (by rw [g19]; decide) (by rw [g19]; rfl) (by decide) ?_
        exact law_undo C hX hbl hL hi (by omega) (by omega) hB (by omega) h hw hl kk
      by_cases g20 : t = 20
      · refine lv_tableIn (tgt := 627) hx hb dL_law_32 (by rw [g20]; decide) (by rw [g20]; decide) (by rw [g20]; rfl) (by decide) ?_
        exact law_save C hX hbl hL hi (by omega) (by omega) hB (by omega) h hw hl kk
      by_cases g21 : t = 21
      · refine lv_tableIn (tgt := 650) hx hb dL_law_32 (by rw [g21]; decide) (by rw [g21]; decide) (by rw [g21]; rfl) (by decide) ?_
        exact law_restore C hX hbl hL hi (by omega) (by omega) hB (by omega) h hw hl kk
      refine lv_tableOut (tgt := 673) hx hb dL_law_32 (sw_law t g0 g1 g2 g3 g4 g5 g6 g7 g8 g9 g10 g11 g12 g13 g14 g15 g16 g17 g18 g19 g20 g21) (by decide) ?_
      refine W.widen (k := cells + 9) (n := slots + 340) (by omega) (by omega) ?_
      exact kk w H locs h (lw_mono hw)
