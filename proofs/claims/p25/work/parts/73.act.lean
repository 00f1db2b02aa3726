/-! ===== act: one change, or none ===== -/
def rm_L_act : Room := { frames := 6, cells := 9, slots := 340, locals := 125 }
set_option maxRecDepth 20000 in
theorem cw_L_act_L_cell_29 {s : State} {args : Array Value} (hts : ∀ w ∈ wsL_act, w.before args s = true) : CallB rm_L_act s args RL 29 yL_cell cL_cell 2 (some .int) wsL_cell rm_L_cell 0 0 2 ∧ (Cond.static yL_cell).before args s = true :=
  va_cwS 2 hts gL_act_L_cell rfl rfl rfl (by decide +kernel) ⟨Nat.le_of_ble_eq_true rfl, Nat.le_of_ble_eq_true rfl⟩
set_option maxRecDepth 20000 in
theorem cw_L_act_L_low_35 {s : State} {args : Array Value} (hts : ∀ w ∈ wsL_act, w.before args s = true) : CallB rm_L_act s args RL 35 yL_low cL_low 2 (some .int) wsL_low rm_L_low 0 0 2 ∧ (Cond.static yL_low).before args s = true :=
  va_cwS 2 hts gL_act_L_low rfl rfl rfl (by decide +kernel) ⟨Nat.le_of_ble_eq_true rfl, Nat.le_of_ble_eq_true rfl⟩
set_option maxRecDepth 20000 in
theorem cw_L_act_X4_set_38 {s : State} {args : Array Value} (hts : ∀ w ∈ wsL_act, w.before args s = true) : CallW rm_L_act s args RL RX4 38 yX4_set cX4_set 3 (some .int) wsX4_set rm_X4_set 9 340 2 :=
  cwV 2 hts gL_act_X4_set rfl rfl rfl (by decide +kernel) ⟨Nat.le_of_ble_eq_true rfl, Nat.le_of_ble_eq_true rfl⟩
set_option maxRecDepth 20000 in
theorem cw_L_act_X4_value_41 {s : State} {args : Array Value} (hts : ∀ w ∈ wsL_act, w.before args s = true) : CallW rm_L_act s args RL RX4 41 yX4_value cX4_value 3 (some .int) wsX4_value rm_X4_value 9 340 2 :=
  cwV 2 hts gL_act_X4_value rfl rfl rfl (by decide +kernel) ⟨Nat.le_of_ble_eq_true rfl, Nat.le_of_ble_eq_true rfl⟩
set_option maxRecDepth 20000 in
theorem cw_L_act_X4_slip_44 {s : State} {args : Array Value} (hts : ∀ w ∈ wsL_act, w.before args s = true) : CallW rm_L_act s args RL RX4 44 yX4_slip cX4_slip 3 (some .int) wsX4_slip rm_X4_slip 9 340 2 :=
  cwV 2 hts gL_act_X4_slip rfl rfl rfl (by decide +kernel) ⟨Nat.le_of_ble_eq_true rfl, Nat.le_of_ble_eq_true rfl⟩
set_option maxRecDepth 20000 in
theorem cw_L_act_X4_undo_50 {s : State} {args : Array Value} (hts : ∀ w ∈ wsL_act, w.before args s = true) : CallW rm_L_act s args RL RX4 50 yX4_undo cX4_undo 2 (some .int) wsX4_undo rm_X4_undo 0 0 0 :=
  cwV 0 hts gL_act_X4_undo rfl rfl rfl (by decide +kernel) ⟨Nat.le_of_ble_eq_true rfl, Nat.le_of_ble_eq_true rfl⟩
set_option maxRecDepth 20000 in
theorem cw_L_act_X4_flush_47 {s : State} {args : Array Value} (hts : ∀ w ∈ wsL_act, w.before args s = true) : CallW rm_L_act s args RL RX4 47 yX4_flush cX4_flush 1 (some .int) wsX4_flush rm_X4_flush 9 340 0 :=
  cwV 0 hts gL_act_X4_flush rfl rfl rfl (by decide +kernel) ⟨Nat.le_of_ble_eq_true rfl, Nat.le_of_ble_eq_true rfl⟩
theorem sw_act (x : Int32) (h0 : ¬ x = 0) (h1 : ¬ x = 1) (h2 : ¬ x = 2) (h3 : ¬ x = 3) (h4 : ¬ x = 4) (h5 : ¬ x = 5) : x.toInt < 0 ∨ 5 < x.toInt := by
  have q0 := lv_neT (a := 0) h0 rfl
  have q1 := lv_neT (a := 1) h1 rfl
  have q2 := lv_neT (a := 2) h2 rfl
  have q3 := lv_neT (a := 3) h3 rfl
  have q4 := lv_neT (a := 4) h4 rfl
  have q5 := lv_neT (a := 5) h5 rfl
  omega
set_option maxHeartbeats 8000000 in
set_option maxRecDepth 100000 in
theorem c_L_act (l : Launch) (G : va_G) (cI cC cZ cQ : ClassId) (b L : Nat) (xs : Nat → Int32) (hL : L ≤ 260) (i : Nat) (hi : i < 90000) (d0 B T k : Nat) (hB2 : B + 99 < 2000000000) (n0 : Int32) (w : va_W) (hw : LWk cI cC cZ cQ d0 B T n0 k w) : CYX l yL_act wsL_act rm_L_act G (TQ cI cC cZ cQ []) [.ref d0, .ref b, .int (nI i)] w b L xs (po_act cI cC cZ cQ d0 B T n0 k) 9 340 := by
  refine CYX.of (cc := cL_act) (maxL := 5) (ret := (some .int)) RL rfl (by decide) rfl (Nat.le_of_ble_eq_true rfl) ?_
  intro p e s m args below meth c A ls C hr hlocks hnm h hl hX hbl hbA
  have hx := C.hx
  have hb := C.hb
  have hl : lv_has ls 5 [(0, .ref d0), (1, .ref b), (2, .int (nI i))] := hl
  refine lv_aload_n hx hb dL_act_0 rfl (lv_at hl 1 rfl) ?_
  refine lv_iload_n hx hb dL_act_1 rfl (lv_at hl 2 rfl) ?_
  refine lv_iconst (v := 1) hx hb dL_act_2 (by decide) ?_
  refine lv_iadd hx hb dL_act_3 ?_
  replace h := Hx.nil h
  rw [aI1 i]
  refine r_callSYX (rest := []) C h hX hbl hbA (cw_L_act_L_cell_29 C.hts) (c_L_cell l G _ b L xs hL (i + 1) (by omega)) rfl hl.1 rfl (Nat.le_of_ble_eq_true rfl) ⟨(Nat.le_of_ble_eq_true rfl), (Nat.le_of_ble_eq_true rfl)⟩ dL_act_4 (fun res w1 H locs hpo h => ?_)
  obtain ⟨⟨y3, rfl⟩, rfl⟩ := hpo
  replace h := Hx.unnil h
  refine lv_istore_n (lv' := [(3, .int y3), (0, .ref d0), (1, .ref b), (2, .int (nI i))]) hx hb dL_act_7 rfl hl (by decide) rfl (fun ls hl => ?_)
  refine lv_aload_n hx hb dL_act_8 rfl (lv_at hl 2 rfl) ?_
  refine lv_iload_n hx hb dL_act_9 rfl (lv_at hl 3 rfl) ?_
  refine lv_iconst (v := 2) hx hb dL_act_10 (by decide) ?_
  refine lv_iadd hx hb dL_act_11 ?_
  replace h := Hx.nil h
  rw [aI2 i]
  refine r_callSYX (rest := []) C h hX hbl hbA (cw_L_act_L_cell_29 C.hts) (c_L_cell l G _ b L xs hL (i + 2) (by omega)) rfl hl.1 rfl (Nat.le_of_ble_eq_true rfl) ⟨(Nat.le_of_ble_eq_true rfl), (Nat.le_of_ble_eq_true rfl)⟩ dL_act_12 (fun res w1 H locs hpo h => ?_)
  obtain ⟨⟨y4, rfl⟩, rfl⟩ := hpo
  replace h := Hx.unnil h
  refine lv_istore (lv' := [(4, .int y4), (3, .int y3), (0, .ref d0), (1, .ref b), (2, .int (nI i))]) hx hb dL_act_15 hl (by decide) rfl (fun ls hl => ?_)
  refine lv_aload_n hx hb dL_act_17 rfl (lv_at hl 3 rfl) ?_
  refine lv_iload_n hx hb dL_act_18 rfl (lv_at hl 4 rfl) ?_
  replace h := Hx.nil h
  refine r_callSYX (rest := []) C h hX hbl hbA (cw_L_act_L_cell_29 C.hts) (c_L_cell l G _ b L xs hL (i + 0) (by omega)) rfl hl.1 rfl (Nat.le_of_ble_eq_true rfl) ⟨(Nat.le_of_ble_eq_true rfl), (Nat.le_of_ble_eq_true rfl)⟩ dL_act_19 (fun res w1 H locs hpo h => ?_)
  obtain ⟨⟨y5, rfl⟩, rfl⟩ := hpo
  replace h := Hx.unnil h
  refine lv_bipush (v := 12) hx hb dL_act_22 (by decide) ?_
  replace h := Hx.nil h
  refine r_callSY (rest := []) C h (cw_L_act_L_low_35 C.hts) (c_L_low l G _ 12 (by omega) (by omega) y5) rfl hl.1 rfl (Nat.le_of_ble_eq_true rfl) ⟨(Nat.le_of_ble_eq_true rfl), (Nat.le_of_ble_eq_true rfl)⟩ dL_act_24 (fun res w1 H locs hpo h => ?_)
  obtain ⟨⟨r0, hr0, rfl⟩, rfl⟩ := hpo
  replace h := Hx.unnil h
  refine lv_topi (fun t et => ?_)
  by_cases g0 : t = 0
  · refine lv_tableIn (tgt := 64) hx hb dL_act_27 (by rw [g0]; decide) (by rw [g0]; decide) (by rw [g0]; rfl) (by decide) ?_
    refine lv_aload_n hx hb dL_act_64 rfl (lv_at hl 2 rfl) ?_
    refine lv_iconst (v := 0) hx hb dL_act_65 (by decide) ?_
    refine lv_iconst (v := 1) hx hb dL_act_66 (by decide) ?_
    refine lv_iload_n hx hb dL_act_67 rfl (lv_at hl 1 rfl) ?_
    refine lv_bipush (v := 20) hx hb dL_act_68 (by decide) ?_
    replace h := Hx.nil h
    refine r_callSY (rest := [.int 1, .int 0, .ref d0]) C h (cw_L_act_L_low_35 C.hts) (c_L_low l G _ 20 (by omega) (by omega) y3) rfl hl.1 rfl (Nat.le_of_ble_eq_true rfl) ⟨(Nat.le_of_ble_eq_true rfl), (Nat.le_of_ble_eq_true rfl)⟩ dL_act_70 (fun res w1 H locs hpo h => ?_)
    obtain ⟨⟨r1, hr1, rfl⟩, rfl⟩ := hpo
    replace h := Hx.unnil h
    refine lv_iadd hx hb dL_act_73 ?_
    refine lv_topi (fun q1 _ => ?_)
    obtain ⟨α, β, S, V, sl, h0, h1, p0, p1, o, fs, fh, Ch, wg, ch, pl, pa, po, pf, ps, hRg, hN, hH, hn0, rfl⟩ := hw
    have ho := hH.1
    have hk6 := hH.2.1
    subst hn0
    obtain ⟨r, nu', o2, k2, e1, hkd, hN', hrr, hH'⟩ := g_set hN hH 0 q1
    replace h : Hx s G A ((catW ([wS cI β V, [(sl, qA cQ 2 fs)], wPd cC p0 p1 ch pl pa po pf ps] : List va_W)) ++ ([(d0, .inr (4, [.ref (α 0), .ref (β 0), .ref sl, .ref h0, .ref p0])), (h0, .inr (0, [.ref h1, .int (nI o), .int (nI k)])), (h1, qA cQ 7 fh)] ++ wS cI α S ++ wg)) _ _ := h.perm (perm_2 8 ([[(d0, .inr (4, [.ref (α 0), .ref (β 0), .ref sl, .ref h0, .ref p0]))], wS cI α S, wS cI β V, [(sl, qA cQ 2 fs)], [(h0, .inr (0, [.ref h1, .int (nI o), .int (nI k)]))], [(h1, qA cQ 7 fh)], wg, wPd cC p0 p1 ch pl pa po pf ps] : List va_W) [2, 3, 7] [0, 4, 5, 1, 6] rfl (by decide))
    refine r_callVY (rest := []) (ci := 4) (N := 5) (Cn := RX4) (T := TX4) C h (cw_L_act_X4_set_38 C.hts) (c_X4_set l G cI cC cZ cQ [] d0 (β 0) sl h0 h1 p0 o k ho hk6 fh Ch wg hRg α S 0 q1 nu' r r (nI o2) (nI k2) e1 hkd) rfl (List.mem_append_right _ List.mem_cons_self) rfl hl.1 rfl (Nat.le_of_ble_eq_true rfl) ⟨(Nat.le_of_ble_eq_true rfl), (Nat.le_of_ble_eq_true rfl)⟩ dL_act_74 (fun res w1 H locs hpo h => ?_)
    obtain ⟨rfl, f', wg', Y, hY, hg, rfl⟩ := hpo
    replace h : Hx s G A (catW ([[(d0, .inr (4, [.ref (α 0), .ref (β 0), .ref sl, .ref h0, .ref p0]))], wS cI α (nu', S.2.1, S.2.2.1, S.2.2.2.1, S.2.2.2.2.1, S.2.2.2.2.2), wS cI β V, [(sl, qA cQ 2 fs)], [(h0, .inr (0, [.ref h1, .int (nI o2), .int (nI k2)]))], [(h1, qA cQ 7 f')], wg', wPd cC p0 p1 ch pl pa po pf ps] : List va_W)) _ _ := Hx.perm (w := (catW ([wS cI β V, [(sl, qA cQ 2 fs)], wPd cC p0 p1 ch pl pa po pf ps] : List va_W)) ++ (catW ([[(d0, .inr (4, [.ref (α 0), .ref (β 0), .ref sl, .ref h0, .ref p0]))], [(h0, .inr (0, [.ref h1, .int (nI o2), .int (nI k2)]))], [(h1, qA cQ 7 f')], wS cI α (nu', S.2.1, S.2.2.1, S.2.2.2.1, S.2.2.2.2.1, S.2.2.2.2.2), wg'] : List va_W))) h (perm_2 8 ([[(d0, .inr (4, [.ref (α 0), .ref (β 0), .ref sl, .ref h0, .ref p0]))], wS cI α (nu', S.2.1, S.2.2.1, S.2.2.2.1, S.2.2.2.2.1, S.2.2.2.2.2), wS cI β V, [(sl, qA cQ 2 fs)], [(h0, .inr (0, [.ref h1, .int (nI o2), .int (nI k2)]))], [(h1, qA cQ 7 f')], wg', wPd cC p0 p1 ch pl pa po pf ps] : List va_W) [2, 3, 7] [0, 4, 5, 1, 6] rfl (by decide)).symm
    exact y_iret C h ⟨r, _, k2, rfl, hrr, α, β, (nu', S.2.1, S.2.2.1, S.2.2.2.1, S.2.2.2.2.1, S.2.2.2.2.2), V, sl, h0, h1, p0, p1, o2, fs, f', (va_up Ch ((o + k) % 7) (some Y)), wg', ch, pl, pa, po, pf, ps, hg, hN', (hH' Y hY), rfl, rfl⟩ hr hlocks dL_act_77
  by_cases g1 : t = 1
  · refine lv_tableIn (tgt := 78) hx hb dL_act_27 (by rw [g1]; decide) (by rw [g1]; decide) (by rw [g1]; rfl) (by decide) ?_
    refine lv_aload_n hx hb dL_act_78 rfl (lv_at hl 2 rfl) ?_
    refine lv_iconst (v := 1) hx hb dL_act_79 (by decide) ?_
    refine lv_iload_n hx hb dL_act_80 rfl (lv_at hl 1 rfl) ?_
    refine lv_bipush (v := 20) hx hb dL_act_81 (by decide) ?_
    replace h := Hx.nil h
    refine r_callSY (rest := [.int 1, .ref d0]) C h (cw_L_act_L_low_35 C.hts) (c_L_low l G _ 20 (by omega) (by omega) y3) rfl hl.1 rfl (Nat.le_of_ble_eq_true rfl) ⟨(Nat.le_of_ble_eq_true rfl), (Nat.le_of_ble_eq_true rfl)⟩ dL_act_83 (fun res w1 H locs hpo h => ?_)
    obtain ⟨⟨r1, hr1, rfl⟩, rfl⟩ := hpo
    replace h := Hx.unnil h
    obtain ⟨α, β, S, V, sl, h0, h1, p0, p1, o, fs, fh, Ch, wg, ch, pl, pa, po, pf, ps, hRg, hN, hH, hn0, rfl⟩ := hw
    have ho := hH.1
    have hk6 := hH.2.1
    subst hn0
    obtain ⟨r, nu', o2, k2, e1, hkd, hN', hrr, hH'⟩ := g_set hN hH 1 (nI r1)
    replace h : Hx s G A ((catW ([wS cI β V, [(sl, qA cQ 2 fs)], wPd cC p0 p1 ch pl pa po pf ps] : List va_W)) ++ ([(d0, .inr (4, [.ref (α 0), .ref (β 0), .ref sl, .ref h0, .ref p0])), (h0, .inr (0, [.ref h1, .int (nI o), .int (nI k)])), (h1, qA cQ 7 fh)] ++ wS cI α S ++ wg)) _ _ := h.perm (perm_2 8 ([[(d0, .inr (4, [.ref (α 0), .ref (β 0), .ref sl, .ref h0, .ref p0]))], wS cI α S, wS cI β V, [(sl, qA cQ 2 fs)], [(h0, .inr (0, [.ref h1, .int (nI o), .int (nI k)]))], [(h1, qA cQ 7 fh)], wg, wPd cC p0 p1 ch pl pa po pf ps] : List va_W) [2, 3, 7] [0, 4, 5, 1, 6] rfl (by decide))
    refine r_callVY (rest := []) (ci := 4) (N := 5) (Cn := RX4) (T := TX4) C h (cw_L_act_X4_set_38 C.hts) (c_X4_set l G cI cC cZ cQ [] d0 (β 0) sl h0 h1 p0 o k ho hk6 fh Ch wg hRg α S 1 (nI r1) nu' r r (nI o2) (nI k2) e1 hkd) rfl (List.mem_append_right _ List.mem_cons_self) rfl hl.1 rfl (Nat.le_of_ble_eq_true rfl) ⟨(Nat.le_of_ble_eq_true rfl), (Nat.le_of_ble_eq_true rfl)⟩ dL_act_86 (fun res w1 H locs hpo h => ?_)
    obtain ⟨rfl, f', wg', Y, hY, hg, rfl⟩ := hpo
    replace h : Hx s G A (catW ([[(d0, .inr (4, [.ref (α 0), .ref (β 0), .ref sl, .ref h0, .ref p0]))], wS cI α (nu', S.2.1, S.2.2.1, S.2.2.2.1, S.2.2.2.2.1, S.2.2.2.2.2), wS cI β V, [(sl, qA cQ 2 fs)], [(h0, .inr (0, [.ref h1, .int (nI o2), .int (nI k2)]))], [(h1, qA cQ 7 f')], wg', wPd cC p0 p1 ch pl pa po pf ps] : List va_W)) _ _ := Hx.perm (w := (catW ([wS cI β V, [(sl, qA cQ 2 fs)], wPd cC p0 p1 ch pl pa po pf ps] : List va_W)) ++ (catW ([[(d0, .inr (4, [.ref (α 0), .ref (β 0), .ref sl, .ref h0, .ref p0]))], [(h0, .inr (0, [.ref h1, .int (nI o2), .int (nI k2)]))], [(h1, qA cQ 7 f')], wS cI α (nu', S.2.1, S.2.2.1, S.2.2.2.1, S.2.2.2.2.1, S.2.2.2.2.2), wg'] : List va_W))) h (perm_2 8 ([[(d0, .inr (4, [.ref (α 0), .ref (β 0), .ref sl, .ref h0, .ref p0]))], wS cI α (nu', S.2.1, S.2.2.1, S.2.2.2.1, S.2.2.2.2.1, S.2.2.2.2.2), wS cI β V, [(sl, qA cQ 2 fs)], [(h0, .inr (0, [.ref h1, .int (nI o2), .int (nI k2)]))], [(h1, qA cQ 7 f')], wg', wPd cC p0 p1 ch pl pa po pf ps] : List va_W) [2, 3, 7] [0, 4, 5, 1, 6] rfl (by decide)).symm
    exact y_iret C h ⟨r, _, k2, rfl, hrr, α, β, (nu', S.2.1, S.2.2.1, S.2.2.2.1, S.2.2.2.2.1, S.2.2.2.2.2), V, sl, h0, h1, p0, p1, o2, fs, f', (va_up Ch ((o + k) % 7) (some Y)), wg', ch, pl, pa, po, pf, ps, hg, hN', (hH' Y hY), rfl, rfl⟩ hr hlocks dL_act_89
  by_cases g2 : t = 2
  · refine lv_tableIn (tgt := 90) hx hb dL_act_27 (by rw [g2]; decide) (by rw [g2]; decide) (by rw [g2]; rfl) (by decide) ?_
    refine lv_aload_n hx hb dL_act_90 rfl (lv_at hl 2 rfl) ?_
    refine lv_iconst (v := 2) hx hb dL_act_91 (by decide) ?_
    refine lv_iload_n hx hb dL_act_92 rfl (lv_at hl 1 rfl) ?_
    refine lv_bipush (v := 6) hx hb dL_act_93 (by decide) ?_
    replace h := Hx.nil h
    refine r_callSY (rest := [.int 2, .ref d0]) C h (cw_L_act_L_low_35 C.hts) (c_L_low l G _ 6 (by omega) (by omega) y3) rfl hl.1 rfl (Nat.le_of_ble_eq_true rfl) ⟨(Nat.le_of_ble_eq_true rfl), (Nat.le_of_ble_eq_true rfl)⟩ dL_act_95 (fun res w1 H locs hpo h => ?_)
    obtain ⟨⟨r1, hr1, rfl⟩, rfl⟩ := hpo
    replace h := Hx.unnil h
    refine lv_iadd hx hb dL_act_98 ?_
    refine lv_topi (fun q1 _ => ?_)
    refine lv_iload hx hb dL_act_99 (lv_at hl 0 rfl) ?_
    refine lv_bipush (v := 17) hx hb dL_act_101 (by decide) ?_
    replace h := Hx.nil h
    refine r_callSY (rest := [.int q1, .ref d0]) C h (cw_L_act_L_low_35 C.hts) (c_L_low l G _ 17 (by omega) (by omega) y4) rfl hl.1 rfl (Nat.le_of_ble_eq_true rfl) ⟨(Nat.le_of_ble_eq_true rfl), (Nat.le_of_ble_eq_true rfl)⟩ dL_act_103 (fun res w1 H locs hpo h => ?_)
    obtain ⟨⟨r2, hr2, rfl⟩, rfl⟩ := hpo
    replace h := Hx.unnil h
    obtain ⟨α, β, S, V, sl, h0, h1, p0, p1, o, fs, fh, Ch, wg, ch, pl, pa, po, pf, ps, hRg, hN, hH, hn0, rfl⟩ := hw
    have ho := hH.1
    have hk6 := hH.2.1
    subst hn0
    obtain ⟨r, nu', o2, k2, e1, hkd, hN', hrr, hH'⟩ := g_set hN hH q1 (nI r2)
    replace h : Hx s G A ((catW ([wS cI β V, [(sl, qA cQ 2 fs)], wPd cC p0 p1 ch pl pa po pf ps] : List va_W)) ++ ([(d0, .inr (4, [.ref (α 0), .ref (β 0), .ref sl, .ref h0, .ref p0])), (h0, .inr (0, [.ref h1, .int (nI o), .int (nI k)])), (h1, qA cQ 7 fh)] ++ wS cI α S ++ wg)) _ _ := h.perm (perm_2 8 ([[(d0, .inr (4, [.ref (α 0), .ref (β 0), .ref sl, .ref h0, .ref p0]))], wS cI α S, wS cI β V, [(sl, qA cQ 2 fs)], [(h0, .inr (0, [.ref h1, .int (nI o), .int (nI k)]))], [(h1, qA cQ 7 fh)], wg, wPd cC p0 p1 ch pl pa po pf ps] : List va_W) [2, 3, 7] [0, 4, 5, 1, 6] rfl (by decide))
    refine r_callVY (rest := []) (ci := 4) (N := 5) (Cn := RX4) (T := TX4) C h (cw_L_act_X4_set_38 C.hts) (c_X4_set l G cI cC cZ cQ [] d0 (β 0) sl h0 h1 p0 o k ho hk6 fh Ch wg hRg α S q1 (nI r2) nu' r r (nI o2) (nI k2) e1 hkd) rfl (List.mem_append_right _ List.mem_cons_self) rfl hl.1 rfl (Nat.le_of_ble_eq_true rfl) ⟨(Nat.le_of_ble_eq_true rfl), (Nat.le_of_ble_eq_true rfl)⟩ dL_act_106 (fun res w1 H locs hpo h => ?_)
    obtain ⟨rfl, f', wg', Y, hY, hg, rfl⟩ := hpo
    replace h : Hx s G A (catW ([[(d0, .inr (4, [.ref (α 0), .ref (β 0), .ref sl, .ref h0, .ref p0]))], wS cI α (nu', S.2.1, S.2.2.1, S.2.2.2.1, S.2.2.2.2.1, S.2.2.2.2.2), wS cI β V, [(sl, qA cQ 2 fs)], [(h0, .inr (0, [.ref h1, .int (nI o2), .int (nI k2)]))], [(h1, qA cQ 7 f')], wg', wPd cC p0 p1 ch pl pa po pf ps] : List va_W)) _ _ := Hx.perm (w := (catW ([wS cI β V, [(sl, qA cQ 2 fs)], wPd cC p0 p1 ch pl pa po pf ps] : List va_W)) ++ (catW ([[(d0, .inr (4, [.ref (α 0), .ref (β 0), .ref sl, .ref h0, .ref p0]))], [(h0, .inr (0, [.ref h1, .int (nI o2), .int (nI k2)]))], [(h1, qA cQ 7 f')], wS cI α (nu', S.2.1, S.2.2.1, S.2.2.2.1, S.2.2.2.2.1, S.2.2.2.2.2), wg'] : List va_W))) h (perm_2 8 ([[(d0, .inr (4, [.ref (α 0), .ref (β 0), .ref sl, .ref h0, .ref p0]))], wS cI α (nu', S.2.1, S.2.2.1, S.2.2.2.1, S.2.2.2.2.1, S.2.2.2.2.2), wS cI β V, [(sl, qA cQ 2 fs)], [(h0, .inr (0, [.ref h1, .int (nI o2), .int (nI k2)]))], [(h1, qA cQ 7 f')], wg', wPd cC p0 p1 ch pl pa po pf ps] : List va_W) [2, 3, 7] [0, 4, 5, 1, 6] rfl (by decide)).symm
    exact y_iret C h ⟨r, _, k2, rfl, hrr, α, β, (nu', S.2.1, S.2.2.1, S.2.2.2.1, S.2.2.2.2.1, S.2.2.2.2.2), V, sl, h0, h1, p0, p1, o2, fs, f', (va_up Ch ((o + k) % 7) (some Y)), wg', ch, pl, pa, po, pf, ps, hg, hN', (hH' Y hY), rfl, rfl⟩ hr hlocks dL_act_109
  by_cases g3 : t = 3
  · refine lv_tableIn (tgt := 110) hx hb dL_act_27 (by rw [g3]; decide) (by rw [g3]; decide) (by rw [g3]; rfl) (by decide) ?_
    refine lv_aload_n hx hb dL_act_110 rfl (lv_at hl 2 rfl) ?_
    refine lv_iload_n hx hb dL_act_111 rfl (lv_at hl 1 rfl) ?_
    refine lv_bipush (v := 17) hx hb dL_act_112 (by decide) ?_
    replace h := Hx.nil h
    refine r_callSY (rest := [.ref d0]) C h (cw_L_act_L_low_35 C.hts) (c_L_low l G _ 17 (by omega) (by omega) y3) rfl hl.1 rfl (Nat.le_of_ble_eq_true rfl) ⟨(Nat.le_of_ble_eq_true rfl), (Nat.le_of_ble_eq_true rfl)⟩ dL_act_114 (fun res w1 H locs hpo h => ?_)
    obtain ⟨⟨r1, hr1, rfl⟩, rfl⟩ := hpo
    replace h := Hx.unnil h
    refine lv_iload hx hb dL_act_117 (lv_at hl 0 rfl) ?_
    refine lv_sipush (v := 257) hx hb dL_act_119 (by decide) ?_
    replace h := Hx.nil h
    refine r_callSY (rest := [.int (nI r1), .ref d0]) C h (cw_L_act_L_low_35 C.hts) (c_L_low l G _ 257 (by omega) (by omega) y4) rfl hl.1 rfl (Nat.le_of_ble_eq_true rfl) ⟨(Nat.le_of_ble_eq_true rfl), (Nat.le_of_ble_eq_true rfl)⟩ dL_act_122 (fun res w1 H locs hpo h => ?_)
    obtain ⟨⟨r2, hr2, rfl⟩, rfl⟩ := hpo
    replace h := Hx.unnil h
    obtain ⟨α, β, S, V, sl, h0, h1, p0, p1, o, fs, fh, Ch, wg, ch, pl, pa, po, pf, ps, hRg, hN, hH, hn0, rfl⟩ := hw
    have ho := hH.1
    have hk6 := hH.2.1
    subst hn0
    obtain ⟨r, va', o2, k2, e1, hkd, hN', hrr, hH'⟩ := g_value hN hH (nI r1) (nI r2)
    replace h : Hx s G A ((catW ([wS cI β V, [(sl, qA cQ 2 fs)], wPd cC p0 p1 ch pl pa po pf ps] : List va_W)) ++ ([(d0, .inr (4, [.ref (α 0), .ref (β 0), .ref sl, .ref h0, .ref p0])), (h0, .inr (0, [.ref h1, .int (nI o), .int (nI k)])), (h1, qA cQ 7 fh)] ++ wS cI α S ++ wg)) _ _ := h.perm (perm_2 8 ([[(d0, .inr (4, [.ref (α 0), .ref (β 0), .ref sl, .ref h0, .ref p0]))], wS cI α S, wS cI β V, [(sl, qA cQ 2 fs)], [(h0, .inr (0, [.ref h1, .int (nI o), .int (nI k)]))], [(h1, qA cQ 7 fh)], wg, wPd cC p0 p1 ch pl pa po pf ps] : List va_W) [2, 3, 7] [0, 4, 5, 1, 6] rfl (by decide))
    refine r_callVY (rest := []) (ci := 4) (N := 5) (Cn := RX4) (T := TX4) C h (cw_L_act_X4_value_41 C.hts) (c_X4_value l G cI cC cZ cQ [] d0 (β 0) sl h0 h1 p0 o k ho hk6 fh Ch wg hRg α S (nI r1) (nI r2) va' r r (nI o2) (nI k2) e1 hkd) rfl (List.mem_append_right _ List.mem_cons_self) rfl hl.1 rfl (Nat.le_of_ble_eq_true rfl) ⟨(Nat.le_of_ble_eq_true rfl), (Nat.le_of_ble_eq_true rfl)⟩ dL_act_125 (fun res w1 H locs hpo h => ?_)
    obtain ⟨rfl, f', wg', Y, hY, hg, rfl⟩ := hpo
    replace h : Hx s G A (catW ([[(d0, .inr (4, [.ref (α 0), .ref (β 0), .ref sl, .ref h0, .ref p0]))], wS cI α (S.1, va', S.2.2.1, S.2.2.2.1, S.2.2.2.2.1, S.2.2.2.2.2), wS cI β V, [(sl, qA cQ 2 fs)], [(h0, .inr (0, [.ref h1, .int (nI o2), .int (nI k2)]))], [(h1, qA cQ 7 f')], wg', wPd cC p0 p1 ch pl pa po pf ps] : List va_W)) _ _ := Hx.perm (w := (catW ([wS cI β V, [(sl, qA cQ 2 fs)], wPd cC p0 p1 ch pl pa po pf ps] : List va_W)) ++ (catW ([[(d0, .inr (4, [.ref (α 0), .ref (β 0), .ref sl, .ref h0, .ref p0]))], [(h0, .inr (0, [.ref h1, .int (nI o2), .int (nI k2)]))], [(h1, qA cQ 7 f')], wS cI α (S.1, va', S.2.2.1, S.2.2.2.1, S.2.2.2.2.1, S.2.2.2.2.2), wg'] : List va_W))) h (perm_2 8 ([[(d0, .inr (4, [.ref (α 0), .ref (β 0), .ref sl, .ref h0, .ref p0]))], wS cI α (S.1, va', S.2.2.1, S.2.2.2.1, S.2.2.2.2.1, S.2.2.2.2.2), wS cI β V, [(sl, qA cQ 2 fs)], [(h0, .inr (0, [.ref h1, .int (nI o2), .int (nI k2)]))], [(h1, qA cQ 7 f')], wg', wPd cC p0 p1 ch pl pa po pf ps] : List va_W) [2, 3, 7] [0, 4, 5, 1, 6] rfl (by decide)).symm
    exact y_iret C h ⟨r, _, k2, rfl, hrr, α, β, (S.1, va', S.2.2.1, S.2.2.2.1, S.2.2.2.2.1, S.2.2.2.2.2), V, sl, h0, h1, p0, p1, o2, fs, f', (va_up Ch ((o + k) % 7) (some Y)), wg', ch, pl, pa, po, pf, ps, hg, hN', (hH' Y hY), rfl, rfl⟩ hr hlocks dL_act_128
  by_cases g4 : t = 4
  · refine lv_tableIn (tgt := 129) hx hb dL_act_27 (by rw [g4]; decide) (by rw [g4]; decide) (by rw [g4]; rfl) (by decide) ?_
    refine lv_aload_n hx hb dL_act_129 rfl (lv_at hl 2 rfl) ?_
    refine lv_iload_n hx hb dL_act_130 rfl (lv_at hl 1 rfl) ?_
    refine lv_iconst (v := 2) hx hb dL_act_131 (by decide) ?_
    replace h := Hx.nil h
    refine r_callSY (rest := [.ref d0]) C h (cw_L_act_L_low_35 C.hts) (c_L_low l G _ 2 (by omega) (by omega) y3) rfl hl.1 rfl (Nat.le_of_ble_eq_true rfl) ⟨(Nat.le_of_ble_eq_true rfl), (Nat.le_of_ble_eq_true rfl)⟩ dL_act_132 (fun res w1 H locs hpo h => ?_)
    obtain ⟨⟨r1, hr1, rfl⟩, rfl⟩ := hpo
    replace h := Hx.unnil h
    refine lv_iconst (v := 1) hx hb dL_act_135 (by decide) ?_
    refine lv_iload hx hb dL_act_136 (lv_at hl 0 rfl) ?_
    refine lv_bipush (v := 30) hx hb dL_act_138 (by decide) ?_
    replace h := Hx.nil h
    refine r_callSY (rest := [.int 1, .int (nI r1), .ref d0]) C h (cw_L_act_L_low_35 C.hts) (c_L_low l G _ 30 (by omega) (by omega) y4) rfl hl.1 rfl (Nat.le_of_ble_eq_true rfl) ⟨(Nat.le_of_ble_eq_true rfl), (Nat.le_of_ble_eq_true rfl)⟩ dL_act_140 (fun res w1 H locs hpo h => ?_)
    obtain ⟨⟨r2, hr2, rfl⟩, rfl⟩ := hpo
    replace h := Hx.unnil h
    refine lv_iadd hx hb dL_act_143 ?_
    refine lv_topi (fun q1 _ => ?_)
    obtain ⟨α, β, S, V, sl, h0, h1, p0, p1, o, fs, fh, Ch, wg, ch, pl, pa, po, pf, ps, hRg, hN, hH, hn0, rfl⟩ := hw
    have ho := hH.1
    have hk6 := hH.2.1
    subst hn0
    obtain ⟨r, nu', o2, k2, e1, hkd, hN', hrr, hH'⟩ := g_slip (by omega) hN hH (nI r1) q1
    replace h : Hx s G A ((catW ([wS cI β V, [(sl, qA cQ 2 fs)], wPd cC p0 p1 ch pl pa po pf ps] : List va_W)) ++ ([(d0, .inr (4, [.ref (α 0), .ref (β 0), .ref sl, .ref h0, .ref p0])), (h0, .inr (0, [.ref h1, .int (nI o), .int (nI k)])), (h1, qA cQ 7 fh)] ++ wS cI α S ++ wg)) _ _ := h.perm (perm_2 8 ([[(d0, .inr (4, [.ref (α 0), .ref (β 0), .ref sl, .ref h0, .ref p0]))], wS cI α S, wS cI β V, [(sl, qA cQ 2 fs)], [(h0, .inr (0, [.ref h1, .int (nI o), .int (nI k)]))], [(h1, qA cQ 7 fh)], wg, wPd cC p0 p1 ch pl pa po pf ps] : List va_W) [2, 3, 7] [0, 4, 5, 1, 6] rfl (by decide))
    refine r_callVY (rest := []) (ci := 4) (N := 5) (Cn := RX4) (T := TX4) C h (cw_L_act_X4_slip_44 C.hts) (c_X4_slip l G cI cC cZ cQ [] d0 (β 0) sl h0 h1 p0 o k ho hk6 fh Ch wg hRg α S (nI r1) q1 nu' r r (nI o2) (nI k2) e1 hkd) rfl (List.mem_append_right _ List.mem_cons_self) rfl hl.1 rfl (Nat.le_of_ble_eq_true rfl) ⟨(Nat.le_of_ble_eq_true rfl), (Nat.le_of_ble_eq_true rfl)⟩ dL_act_144 (fun res w1 H locs hpo h => ?_)
    obtain ⟨rfl, f', wg', Y, hY, hg, rfl⟩ := hpo
    replace h : Hx s G A (catW ([[(d0, .inr (4, [.ref (α 0), .ref (β 0), .ref sl, .ref h0, .ref p0]))], wS cI α (nu', S.2.1, S.2.2.1, S.2.2.2.1, S.2.2.2.2.1, S.2.2.2.2.2), wS cI β V, [(sl, qA cQ 2 fs)], [(h0, .inr (0, [.ref h1, .int (nI o2), .int (nI k2)]))], [(h1, qA cQ 7 f')], wg', wPd cC p0 p1 ch pl pa po pf ps] : List va_W)) _ _ := Hx.perm (w := (catW ([wS cI β V, [(sl, qA cQ 2 fs)], wPd cC p0 p1 ch pl pa po pf ps] : List va_W)) ++ (catW ([[(d0, .inr (4, [.ref (α 0), .ref (β 0), .ref sl, .ref h0, .ref p0]))], [(h0, .inr (0, [.ref h1, .int (nI o2), .int (nI k2)]))], [(h1, qA cQ 7 f')], wS cI α (nu', S.2.1, S.2.2.1, S.2.2.2.1, S.2.2.2.2.1, S.2.2.2.2.2), wg'] : List va_W))) h (perm_2 8 ([[(d0, .inr (4, [.ref (α 0), .ref (β 0), .ref sl, .ref h0, .ref p0]))], wS cI α (nu', S.2.1, S.2.2.1, S.2.2.2.1, S.2.2.2.2.1, S.2.2.2.2.2), wS cI β V, [(sl, qA cQ 2 fs)], [(h0, .inr (0, [.ref h1, .int (nI o2), .int (nI k2)]))], [(h1, qA cQ 7 f')], wg', wPd cC p0 p1 ch pl pa po pf ps] : List va_W) [2, 3, 7] [0, 4, 5, 1, 6] rfl (by decide)).symm
    exact y_iret C h ⟨r, _, k2, rfl, hrr, α, β, (nu', S.2.1, S.2.2.1, S.2.2.2.1, S.2.2.2.2.1, S.2.2.2.2.2), V, sl, h0, h1, p0, p1, o2, fs, f', (va_up Ch ((o + k) % 7) (some Y)), wg', ch, pl, pa, po, pf, ps, hg, hN', (hH' Y hY), rfl, rfl⟩ hr hlocks dL_act_147
  by_cases g5 : t = 5
  · refine lv_tableIn (tgt := 148) hx hb dL_act_27 (by rw [g5]; decide) (by rw [g5]; decide) (by rw [g5]; rfl) (by decide) ?_
    refine lv_iload_n hx hb dL_act_148 rfl (lv_at hl 1 rfl) ?_
    refine lv_iconst (v := 3) hx hb dL_act_149 (by decide) ?_
    replace h := Hx.nil h
    refine r_callSY (rest := []) C h (cw_L_act_L_low_35 C.hts) (c_L_low l G _ 3 (by omega) (by omega) y3) rfl hl.1 rfl (Nat.le_of_ble_eq_true rfl) ⟨(Nat.le_of_ble_eq_true rfl), (Nat.le_of_ble_eq_true rfl)⟩ dL_act_150 (fun res w1 H locs hpo h => ?_)
    obtain ⟨⟨r1, hr1, rfl⟩, rfl⟩ := hpo
    replace h := Hx.unnil h
    refine lv_if_ne (tgt := 163) hx hb dL_act_153 (by decide) (fun hc => ?_) (fun hc => ?_)
    · skip
      refine lv_aload_n hx hb dL_act_163 rfl (lv_at hl 2 rfl) ?_
      obtain ⟨α, β, S, V, sl, h0, h1, p0, p1, o, fs, fh, Ch, wg, ch, pl, pa, po, pf, ps, hRg, hN, hH, hn0, rfl⟩ := hw
      have ho := hH.1
      have hk6 := hH.2.1
      subst hn0
      rcases Nat.eq_zero_or_pos k with hk0 | hk0
      · subst hk0
        replace h : Hx s G A ((catW ([wS cI β V, [(sl, qA cQ 2 fs)], wPd cC p0 p1 ch pl pa po pf ps] : List va_W)) ++ ([(d0, .inr (4, [.ref (α 0), .ref (β 0), .ref sl, .ref h0, .ref p0])), (h0, .inr (0, [.ref h1, .int (nI o), .int (nI 0)])), (h1, qA cQ 7 fh)] ++ wS cI α S ++ wg)) _ _ := h.perm (perm_2 8 ([[(d0, .inr (4, [.ref (α 0), .ref (β 0), .ref sl, .ref h0, .ref p0]))], wS cI α S, wS cI β V, [(sl, qA cQ 2 fs)], [(h0, .inr (0, [.ref h1, .int (nI o), .int (nI 0)]))], [(h1, qA cQ 7 fh)], wg, wPd cC p0 p1 ch pl pa po pf ps] : List va_W) [2, 3, 7] [0, 4, 5, 1, 6] rfl (by decide))
        refine r_callVY (rest := []) (ci := 4) (N := 5) (Cn := RX4) (T := TX4) C h (cw_L_act_X4_undo_50 C.hts) (c_X4_undo0 l G cI cC cZ cQ [] d0 (β 0) sl h0 h1 p0 o ho fh Ch wg hRg α S) rfl (List.mem_append_right _ List.mem_cons_self) rfl hl.1 rfl (Nat.le_of_ble_eq_true rfl) ⟨(Nat.le_of_ble_eq_true rfl), (Nat.le_of_ble_eq_true rfl)⟩ dL_act_164 (fun res w1 H locs hpo h => ?_)
        obtain ⟨rfl, rfl⟩ := hpo
        replace h : Hx s G A (catW ([[(d0, .inr (4, [.ref (α 0), .ref (β 0), .ref sl, .ref h0, .ref p0]))], wS cI α S, wS cI β V, [(sl, qA cQ 2 fs)], [(h0, .inr (0, [.ref h1, .int (nI o), .int (nI 0)]))], [(h1, qA cQ 7 fh)], wg, wPd cC p0 p1 ch pl pa po pf ps] : List va_W)) _ _ := Hx.perm (w := (catW ([wS cI β V, [(sl, qA cQ 2 fs)], wPd cC p0 p1 ch pl pa po pf ps] : List va_W)) ++ (catW ([[(d0, .inr (4, [.ref (α 0), .ref (β 0), .ref sl, .ref h0, .ref p0]))], [(h0, .inr (0, [.ref h1, .int (nI o), .int (nI 0)]))], [(h1, qA cQ 7 fh)], wS cI α S, wg] : List va_W))) h (perm_2 8 ([[(d0, .inr (4, [.ref (α 0), .ref (β 0), .ref sl, .ref h0, .ref p0]))], wS cI α S, wS cI β V, [(sl, qA cQ 2 fs)], [(h0, .inr (0, [.ref h1, .int (nI o), .int (nI 0)]))], [(h1, qA cQ 7 fh)], wg, wPd cC p0 p1 ch pl pa po pf ps] : List va_W) [2, 3, 7] [0, 4, 5, 1, 6] rfl (by decide)).symm
        refine W.widen (k := 9) (n := 340) (by omega) (by omega) ?_
        exact y_iret C h ⟨(-5), _, 0, rfl, (fun _ => ⟨rfl, rfl⟩), α, β, S, V, sl, h0, h1, p0, p1, o, fs, fh, Ch, wg, ch, pl, pa, po, pf, ps, hRg, (hN.mono (by omega) (Nat.le_refl _)), (hH.mono (by omega) (Nat.le_refl _)), rfl, rfl⟩ hr hlocks dL_act_167
      · skip
        obtain ⟨V', hV, hNV⟩ := hH.2.2 (k - 1) (by omega)
        replace h : Hx s G A ((catW ([wS cI β V, [(sl, qA cQ 2 fs)], wPd cC p0 p1 ch pl pa po pf ps] : List va_W)) ++ ([(d0, .inr (4, [.ref (α 0), .ref (β 0), .ref sl, .ref h0, .ref p0])), (h0, .inr (0, [.ref h1, .int (nI o), .int (nI k)])), (h1, qA cQ 7 fh)] ++ wS cI α S ++ wg)) _ _ := h.perm (perm_2 8 ([[(d0, .inr (4, [.ref (α 0), .ref (β 0), .ref sl, .ref h0, .ref p0]))], wS cI α S, wS cI β V, [(sl, qA cQ 2 fs)], [(h0, .inr (0, [.ref h1, .int (nI o), .int (nI k)]))], [(h1, qA cQ 7 fh)], wg, wPd cC p0 p1 ch pl pa po pf ps] : List va_W) [2, 3, 7] [0, 4, 5, 1, 6] rfl (by decide))
        refine r_callVY (rest := []) (ci := 4) (N := 5) (Cn := RX4) (T := TX4) C h (cw_L_act_X4_undo_50 C.hts) (c_X4_undo l G cI cC cZ cQ [] d0 (β 0) sl h0 h1 p0 o k ho hk6 fh Ch wg hRg α S hk0 V' hV) rfl (List.mem_append_right _ List.mem_cons_self) rfl hl.1 rfl (Nat.le_of_ble_eq_true rfl) ⟨(Nat.le_of_ble_eq_true rfl), (Nat.le_of_ble_eq_true rfl)⟩ dL_act_164 (fun res w1 H locs hpo h => ?_)
        obtain ⟨rfl, wg', Y, hY, hg, rfl⟩ := hpo
        replace h : Hx s G A (catW ([[(d0, .inr (4, [.ref (α 0), .ref (β 0), .ref sl, .ref h0, .ref p0]))], wS cI α Y, wS cI β V, [(sl, qA cQ 2 fs)], [(h0, .inr (0, [.ref h1, .int (nI o), .int (nI (k - 1))]))], [(h1, qA cQ 7 fh)], wg', wPd cC p0 p1 ch pl pa po pf ps] : List va_W)) _ _ := Hx.perm (w := (catW ([wS cI β V, [(sl, qA cQ 2 fs)], wPd cC p0 p1 ch pl pa po pf ps] : List va_W)) ++ (catW ([[(d0, .inr (4, [.ref (α 0), .ref (β 0), .ref sl, .ref h0, .ref p0]))], [(h0, .inr (0, [.ref h1, .int (nI o), .int (nI (k - 1))]))], [(h1, qA cQ 7 fh)], wS cI α Y, wg'] : List va_W))) h (perm_2 8 ([[(d0, .inr (4, [.ref (α 0), .ref (β 0), .ref sl, .ref h0, .ref p0]))], wS cI α Y, wS cI β V, [(sl, qA cQ 2 fs)], [(h0, .inr (0, [.ref h1, .int (nI o), .int (nI (k - 1))]))], [(h1, qA cQ 7 fh)], wg', wPd cC p0 p1 ch pl pa po pf ps] : List va_W) [2, 3, 7] [0, 4, 5, 1, 6] rfl (by decide)).symm
        refine W.widen (k := 9) (n := 340) (by omega) (by omega) ?_
        exact y_iret C h ⟨(nI (k - 1)), _, (k - 1), rfl, (fun g => absurd g (nlt0 (by omega))), α, β, Y, V, sl, h0, h1, p0, p1, o, fs, fh, Ch, wg', ch, pl, pa, po, pf, ps, hg, ((hNV.cp hY).mono (by omega) (Nat.le_refl _)), (HS.mono ⟨ho, by omega, fun i hi => hH.2.2 i (by omega)⟩ (by omega) (Nat.le_refl _)), rfl, rfl⟩ hr hlocks dL_act_167
    · skip
      refine lv_aload_n hx hb dL_act_156 rfl (lv_at hl 2 rfl) ?_
      obtain ⟨α, β, S, V, sl, h0, h1, p0, p1, o, fs, fh, Ch, wg, ch, pl, pa, po, pf, ps, hRg, hN, hH, hn0, rfl⟩ := hw
      have ho := hH.1
      have hk6 := hH.2.1
      subst hn0
      obtain ⟨r, nu', qu', lo', o2, k2, e1, hkd, hN', hrr, hH'⟩ := g_flush hN hH 
      replace h : Hx s G A ((catW ([wS cI β V, [(sl, qA cQ 2 fs)], wPd cC p0 p1 ch pl pa po pf ps] : List va_W)) ++ ([(d0, .inr (4, [.ref (α 0), .ref (β 0), .ref sl, .ref h0, .ref p0])), (h0, .inr (0, [.ref h1, .int (nI o), .int (nI k)])), (h1, qA cQ 7 fh)] ++ wS cI α S ++ wg)) _ _ := h.perm (perm_2 8 ([[(d0, .inr (4, [.ref (α 0), .ref (β 0), .ref sl, .ref h0, .ref p0]))], wS cI α S, wS cI β V, [(sl, qA cQ 2 fs)], [(h0, .inr (0, [.ref h1, .int (nI o), .int (nI k)]))], [(h1, qA cQ 7 fh)], wg, wPd cC p0 p1 ch pl pa po pf ps] : List va_W) [2, 3, 7] [0, 4, 5, 1, 6] rfl (by decide))
      refine r_callVY (rest := []) (ci := 4) (N := 5) (Cn := RX4) (T := TX4) C h (cw_L_act_X4_flush_47 C.hts) (c_X4_flush l G cI cC cZ cQ [] d0 (β 0) sl h0 h1 p0 o k ho hk6 fh Ch wg hRg α S  nu' qu' lo' r r (nI o2) (nI k2) e1 hkd) rfl (List.mem_append_right _ List.mem_cons_self) rfl hl.1 rfl (Nat.le_of_ble_eq_true rfl) ⟨(Nat.le_of_ble_eq_true rfl), (Nat.le_of_ble_eq_true rfl)⟩ dL_act_157 (fun res w1 H locs hpo h => ?_)
      obtain ⟨rfl, f', wg', Y, hY, hg, rfl⟩ := hpo
      replace h : Hx s G A (catW ([[(d0, .inr (4, [.ref (α 0), .ref (β 0), .ref sl, .ref h0, .ref p0]))], wS cI α (nu', S.2.1, qu', S.2.2.2.1, lo', S.2.2.2.2.2), wS cI β V, [(sl, qA cQ 2 fs)], [(h0, .inr (0, [.ref h1, .int (nI o2), .int (nI k2)]))], [(h1, qA cQ 7 f')], wg', wPd cC p0 p1 ch pl pa po pf ps] : List va_W)) _ _ := Hx.perm (w := (catW ([wS cI β V, [(sl, qA cQ 2 fs)], wPd cC p0 p1 ch pl pa po pf ps] : List va_W)) ++ (catW ([[(d0, .inr (4, [.ref (α 0), .ref (β 0), .ref sl, .ref h0, .ref p0]))], [(h0, .inr (0, [.ref h1, .int (nI o2), .int (nI k2)]))], [(h1, qA cQ 7 f')], wS cI α (nu', S.2.1, qu', S.2.2.2.1, lo', S.2.2.2.2.2), wg'] : List va_W))) h (perm_2 8 ([[(d0, .inr (4, [.ref (α 0), .ref (β 0), .ref sl, .ref h0, .ref p0]))], wS cI α (nu', S.2.1, qu', S.2.2.2.1, lo', S.2.2.2.2.2), wS cI β V, [(sl, qA cQ 2 fs)], [(h0, .inr (0, [.ref h1, .int (nI o2), .int (nI k2)]))], [(h1, qA cQ 7 f')], wg', wPd cC p0 p1 ch pl pa po pf ps] : List va_W) [2, 3, 7] [0, 4, 5, 1, 6] rfl (by decide)).symm
      refine lv_goto (tgt := 167) hx hb dL_act_160 (by decide) ?_
      exact y_iret C h ⟨r, _, k2, rfl, hrr, α, β, (nu', S.2.1, qu', S.2.2.2.1, lo', S.2.2.2.2.2), V, sl, h0, h1, p0, p1, o2, fs, f', (va_up Ch ((o + k) % 7) (some Y)), wg', ch, pl, pa, po, pf, ps, hg, hN', (hH' Y hY), rfl, rfl⟩ hr hlocks dL_act_167
  refine lv_tableOut (tgt := 168) hx hb dL_act_27 (sw_act t g0 g1 g2 g3 g4 g5) (by decide) ?_
  refine lv_bipush (v := (-20)) hx hb dL_act_168 (by decide) ?_
  refine W.widen (k := 9) (n := 340) (by omega) (by omega) ?_
  exact y_iret C h ⟨_, n0, k, rfl, fun _ => ⟨rfl, rfl⟩, hw.mono (by omega) (Nat.le_refl _)⟩ hr hlocks dL_act_170
