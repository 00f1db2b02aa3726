/-! ===== the law: what holds at its loop's head ===== -/
def LW (cI cC cZ cQ : ClassId) (d0 m0 B : Nat) (w : va_W) : Prop := ∃ (α β μ : Nat → Nat) (S V : T6) (sl h0 h1 p0 p1 o k : Nat) (fs fh : Nat → Option Nat) (Cl Ch : Nat → Option T6) (wl wg : va_W) (ch : Nat → Int32) (pl pa po pf ps : Int32) (now thn past : Nat → Int32) (kept : Int32) (slt held mpad : Nat → Int32) (mpl mat : Int32) (ords : Nat → Int32) (ordn : Int32), RGs cI fs Cl 2 wl ∧ RGs cI fh Ch 7 wg ∧ NSt B S now ∧ HSt B Ch o k past kept ∧ LSl B Cl slt held ∧ PPd ch pl mpad mpl ∧ w = (catW ([[(d0, .inr (4, [.ref (α 0), .ref (β 0), .ref sl, .ref h0, .ref p0]))], wS cI α S, wS cI β V, [(sl, qA cQ 2 fs)], wl, [(h0, .inr (0, [.ref h1, .int (nI o), .int (nI k)]))], [(h1, qA cQ 7 fh)], wg, wPd cC p0 p1 ch pl pa po pf ps, wMd cI cZ m0 (μ 1) (μ 2) (μ 3) (μ 4) (μ 5) (μ 6) (μ 7) now thn past kept slt held mpad mpl mat ords ordn] : List va_W))
theorem hs_kept {B : Nat} {Ch : Nat → Option T6} {o k : Nat} {past : Nat → Int32} {kept : Int32} (h : HSt B Ch o k past kept) : kept = nI k := by
  obtain ⟨P, -, h2, -⟩ := h
  exact h2
theorem pp_eq {ch mpad : Nat → Int32} {pl mpl : Int32} (h : PPd ch pl mpad mpl) : pl = mpl := by
  obtain ⟨p, n, -, h1, h2⟩ := h
  rw [h1, h2]
theorem pp_zero (ch mpad : Nat → Int32) : PPd ch 0 mpad 0 := ⟨fun _ => 0, 0, ⟨by omega, fun j hj => by omega⟩, rfl, rfl⟩
theorem aI1 (i : Nat) : nI i + 1 = nI (i + 1) := nI_1 i
theorem aI2 (i : Nat) : nI i + 2 = nI (i + 2) := by rw [li_2, nI_add]
set_option maxRecDepth 20000 in
theorem kcL_77 : Cond.constantLong RL 77 4294967295 ∈ wsL_law := List.mem_of_getElem? (i := 6) (by decide +kernel)
theorem lw_mono {cI cC cZ cQ : ClassId} {d0 m0 B : Nat} {w : va_W} (h : LW cI cC cZ cQ d0 m0 B w) : LW cI cC cZ cQ d0 m0 (B + 5000) w := by
  obtain ⟨α, β, μ, S, V, sl, h0, h1, p0, p1, o, k, fs, fh, Cl, Ch, wl, wg, ch, pl, pa, po, pf, ps, now, thn, past, kept, slt, held, mpad, mpl, mat, ords, ordn, hRl, hRg, hN, hH, hLs, hP, e⟩ := h
  exact ⟨α, β, μ, S, V, sl, h0, h1, p0, p1, o, k, fs, fh, Cl, Ch, wl, wg, ch, pl, pa, po, pf, ps, now, thn, past, kept, slt, held, mpad, mpl, mat, ords, ordn, hRl, hRg, ns_mono hN (by omega), hs_mono hH (by omega), lsl_mono hLs (by omega), hP, e⟩
set_option maxRecDepth 20000 in
theorem cwL_X4_set {s : State} {args : Array Value} (hts : ∀ w ∈ wsL_law, w.before args s = true) : CallW room_1 s args RL RX4 13 yX4_set cX4_set 3 (some .int) wsX4_set rm_X4_set 9 340 2 :=
  cwV 2 hts gL_law_X4_set rfl rfl rfl (by decide +kernel) ⟨Nat.le_of_ble_eq_true rfl, Nat.le_of_ble_eq_true rfl⟩
set_option maxRecDepth 20000 in
theorem cwL_X5_set {s : State} {args : Array Value} (hts : ∀ w ∈ wsL_law, w.before args s = true) : CallW room_1 s args RL RX5 17 yX5_set cX5_set 3 (some .int) wsX5_set rm_X5_set 0 0 2 :=
  cwV 2 hts gL_law_X5_set rfl rfl rfl (by decide +kernel) ⟨Nat.le_of_ble_eq_true rfl, Nat.le_of_ble_eq_true rfl⟩
set_option maxRecDepth 20000 in
theorem cwL_X4_value {s : State} {args : Array Value} (hts : ∀ w ∈ wsL_law, w.before args s = true) : CallW room_1 s args RL RX4 18 yX4_value cX4_value 3 (some .int) wsX4_value rm_X4_value 9 340 2 :=
  cwV 2 hts gL_law_X4_value rfl rfl rfl (by decide +kernel) ⟨Nat.le_of_ble_eq_true rfl, Nat.le_of_ble_eq_true rfl⟩
set_option maxRecDepth 20000 in
theorem cwL_X5_value {s : State} {args : Array Value} (hts : ∀ w ∈ wsL_law, w.before args s = true) : CallW room_1 s args RL RX5 21 yX5_value cX5_value 4 (some .int) wsX5_value rm_X5_value 0 0 2 :=
  cwV 2 hts gL_law_X5_value rfl rfl rfl (by decide +kernel) ⟨Nat.le_of_ble_eq_true rfl, Nat.le_of_ble_eq_true rfl⟩
set_option maxRecDepth 20000 in
theorem cwL_X4_slip {s : State} {args : Array Value} (hts : ∀ w ∈ wsL_law, w.before args s = true) : CallW room_1 s args RL RX4 22 yX4_slip cX4_slip 3 (some .int) wsX4_slip rm_X4_slip 9 340 2 :=
  cwV 2 hts gL_law_X4_slip rfl rfl rfl (by decide +kernel) ⟨Nat.le_of_ble_eq_true rfl, Nat.le_of_ble_eq_true rfl⟩
set_option maxRecDepth 20000 in
theorem cwL_X5_slip {s : State} {args : Array Value} (hts : ∀ w ∈ wsL_law, w.before args s = true) : CallW room_1 s args RL RX5 25 yX5_slip cX5_slip 4 (some .int) wsX5_slip rm_X5_slip 0 0 2 :=
  cwV 2 hts gL_law_X5_slip rfl rfl rfl (by decide +kernel) ⟨Nat.le_of_ble_eq_true rfl, Nat.le_of_ble_eq_true rfl⟩
set_option maxRecDepth 20000 in
theorem cwL_X4_pass {s : State} {args : Array Value} (hts : ∀ w ∈ wsL_law, w.before args s = true) : CallW room_1 s args RL RX4 26 yX4_pass cX4_pass 2 (some .int) wsX4_pass rm_X4_pass 9 340 1 :=
  cwV 1 hts gL_law_X4_pass rfl rfl rfl (by decide +kernel) ⟨Nat.le_of_ble_eq_true rfl, Nat.le_of_ble_eq_true rfl⟩
set_option maxRecDepth 20000 in
theorem cwL_X5_pass {s : State} {args : Array Value} (hts : ∀ w ∈ wsL_law, w.before args s = true) : CallW room_1 s args RL RX5 30 yX5_pass cX5_pass 3 (some .int) wsX5_pass rm_X5_pass 0 0 1 :=
  cwV 1 hts gL_law_X5_pass rfl rfl rfl (by decide +kernel) ⟨Nat.le_of_ble_eq_true rfl, Nat.le_of_ble_eq_true rfl⟩
set_option maxRecDepth 20000 in
theorem cwL_X4_flush {s : State} {args : Array Value} (hts : ∀ w ∈ wsL_law, w.before args s = true) : CallW room_1 s args RL RX4 31 yX4_flush cX4_flush 1 (some .int) wsX4_flush rm_X4_flush 9 340 0 :=
  cwV 0 hts gL_law_X4_flush rfl rfl rfl (by decide +kernel) ⟨Nat.le_of_ble_eq_true rfl, Nat.le_of_ble_eq_true rfl⟩
set_option maxRecDepth 20000 in
theorem cwL_X5_flush {s : State} {args : Array Value} (hts : ∀ w ∈ wsL_law, w.before args s = true) : CallW room_1 s args RL RX5 35 yX5_flush cX5_flush 2 (some .int) wsX5_flush rm_X5_flush 0 0 0 :=
  cwV 0 hts gL_law_X5_flush rfl rfl rfl (by decide +kernel) ⟨Nat.le_of_ble_eq_true rfl, Nat.le_of_ble_eq_true rfl⟩
set_option maxRecDepth 20000 in
theorem cwL_X4_waiting {s : State} {args : Array Value} (hts : ∀ w ∈ wsL_law, w.before args s = true) : CallW room_1 s args RL RX4 36 yX4_waiting cX4_waiting 3 (some .int) wsX4_waiting rm_X4_waiting 0 0 2 :=
  cwV 2 hts gL_law_X4_waiting rfl rfl rfl (by decide +kernel) ⟨Nat.le_of_ble_eq_true rfl, Nat.le_of_ble_eq_true rfl⟩
set_option maxRecDepth 20000 in
theorem cwL_X5_waiting {s : State} {args : Array Value} (hts : ∀ w ∈ wsL_law, w.before args s = true) : CallW room_1 s args RL RX5 39 yX5_waiting cX5_waiting 3 (some .int) wsX5_waiting rm_X5_waiting 0 0 2 :=
  cwV 2 hts gL_law_X5_waiting rfl rfl rfl (by decide +kernel) ⟨Nat.le_of_ble_eq_true rfl, Nat.le_of_ble_eq_true rfl⟩
set_option maxRecDepth 20000 in
theorem cwL_X4_row {s : State} {args : Array Value} (hts : ∀ w ∈ wsL_law, w.before args s = true) : CallW room_1 s args RL RX4 40 yX4_row cX4_row 3 (some .int) wsX4_row rm_X4_row 0 0 2 :=
  cwV 2 hts gL_law_X4_row rfl rfl rfl (by decide +kernel) ⟨Nat.le_of_ble_eq_true rfl, Nat.le_of_ble_eq_true rfl⟩
set_option maxRecDepth 20000 in
theorem cwL_X5_row {s : State} {args : Array Value} (hts : ∀ w ∈ wsL_law, w.before args s = true) : CallW room_1 s args RL RX5 43 yX5_row cX5_row 3 (some .int) wsX5_row rm_X5_row 0 0 2 :=
  cwV 2 hts gL_law_X5_row rfl rfl rfl (by decide +kernel) ⟨Nat.le_of_ble_eq_true rfl, Nat.le_of_ble_eq_true rfl⟩
set_option maxRecDepth 20000 in
theorem cwL_X4_ofMissing {s : State} {args : Array Value} (hts : ∀ w ∈ wsL_law, w.before args s = true) : CallW room_1 s args RL RX4 44 yX4_ofMissing cX4_ofMissing 3 (some .int) wsX4_ofMissing rm_X4_ofMissing 0 0 2 :=
  cwV 2 hts gL_law_X4_ofMissing rfl rfl rfl (by decide +kernel) ⟨Nat.le_of_ble_eq_true rfl, Nat.le_of_ble_eq_true rfl⟩
set_option maxRecDepth 20000 in
theorem cwL_X5_ofMissing {s : State} {args : Array Value} (hts : ∀ w ∈ wsL_law, w.before args s = true) : CallW room_1 s args RL RX5 47 yX5_ofMissing cX5_ofMissing 3 (some .int) wsX5_ofMissing rm_X5_ofMissing 0 0 2 :=
  cwV 2 hts gL_law_X5_ofMissing rfl rfl rfl (by decide +kernel) ⟨Nat.le_of_ble_eq_true rfl, Nat.le_of_ble_eq_true rfl⟩
set_option maxRecDepth 20000 in
theorem cwL_X4_count {s : State} {args : Array Value} (hts : ∀ w ∈ wsL_law, w.before args s = true) : CallW room_1 s args RL RX4 48 yX4_count cX4_count 2 (some .int) wsX4_count rm_X4_count 0 0 1 :=
  cwV 1 hts gL_law_X4_count rfl rfl rfl (by decide +kernel) ⟨Nat.le_of_ble_eq_true rfl, Nat.le_of_ble_eq_true rfl⟩
set_option maxRecDepth 20000 in
theorem cwL_X5_count {s : State} {args : Array Value} (hts : ∀ w ∈ wsL_law, w.before args s = true) : CallW room_1 s args RL RX5 51 yX5_count cX5_count 2 (some .int) wsX5_count rm_X5_count 0 0 1 :=
  cwV 1 hts gL_law_X5_count rfl rfl rfl (by decide +kernel) ⟨Nat.le_of_ble_eq_true rfl, Nat.le_of_ble_eq_true rfl⟩
set_option maxRecDepth 20000 in
theorem cwL_X4_shown {s : State} {args : Array Value} (hts : ∀ w ∈ wsL_law, w.before args s = true) : CallW room_1 s args RL RX4 52 yX4_shown cX4_shown 3 (some .int) wsX4_shown rm_X4_shown 0 0 0 :=
  cwV 0 hts gL_law_X4_shown rfl rfl rfl (by decide +kernel) ⟨Nat.le_of_ble_eq_true rfl, Nat.le_of_ble_eq_true rfl⟩
set_option maxRecDepth 20000 in
theorem cwL_X5_shown {s : State} {args : Array Value} (hts : ∀ w ∈ wsL_law, w.before args s = true) : CallW room_1 s args RL RX5 55 yX5_shown cX5_shown 2 (some .int) wsX5_shown rm_X5_shown 0 0 0 :=
  cwV 0 hts gL_law_X5_shown rfl rfl rfl (by decide +kernel) ⟨Nat.le_of_ble_eq_true rfl, Nat.le_of_ble_eq_true rfl⟩
set_option maxRecDepth 20000 in
theorem cwL_X4_ratio {s : State} {args : Array Value} (hts : ∀ w ∈ wsL_law, w.before args s = true) : CallW room_1 s args RL RX4 56 yX4_ratio cX4_ratio 3 (some .int) wsX4_ratio rm_X4_ratio 0 0 0 :=
  cwV 0 hts gL_law_X4_ratio rfl rfl rfl (by decide +kernel) ⟨Nat.le_of_ble_eq_true rfl, Nat.le_of_ble_eq_true rfl⟩
set_option maxRecDepth 20000 in
theorem cwL_X5_ratio {s : State} {args : Array Value} (hts : ∀ w ∈ wsL_law, w.before args s = true) : CallW room_1 s args RL RX5 59 yX5_ratio cX5_ratio 1 (some .int) wsX5_ratio rm_X5_ratio 0 0 0 :=
  cwV 0 hts gL_law_X5_ratio rfl rfl rfl (by decide +kernel) ⟨Nat.le_of_ble_eq_true rfl, Nat.le_of_ble_eq_true rfl⟩
set_option maxRecDepth 20000 in
theorem cwL_X4_fill {s : State} {args : Array Value} (hts : ∀ w ∈ wsL_law, w.before args s = true) : CallW room_1 s args RL RX4 60 yX4_fill cX4_fill 2 (some .long) wsX4_fill rm_X4_fill 0 0 0 :=
  cwV 0 hts gL_law_X4_fill rfl rfl rfl (by decide +kernel) ⟨Nat.le_of_ble_eq_true rfl, Nat.le_of_ble_eq_true rfl⟩
set_option maxRecDepth 20000 in
theorem cwL_X5_fill {s : State} {args : Array Value} (hts : ∀ w ∈ wsL_law, w.before args s = true) : CallW room_1 s args RL RX5 64 yX5_fill cX5_fill 1 (some .long) wsX5_fill rm_X5_fill 0 0 0 :=
  cwV 0 hts gL_law_X5_fill rfl rfl rfl (by decide +kernel) ⟨Nat.le_of_ble_eq_true rfl, Nat.le_of_ble_eq_true rfl⟩
set_option maxRecDepth 20000 in
theorem cwL_X4_would {s : State} {args : Array Value} (hts : ∀ w ∈ wsL_law, w.before args s = true) : CallW room_1 s args RL RX4 65 yX4_would cX4_would 3 (some .int) wsX4_would rm_X4_would 0 0 2 :=
  cwV 2 hts gL_law_X4_would rfl rfl rfl (by decide +kernel) ⟨Nat.le_of_ble_eq_true rfl, Nat.le_of_ble_eq_true rfl⟩
set_option maxRecDepth 20000 in
theorem cwL_X5_would {s : State} {args : Array Value} (hts : ∀ w ∈ wsL_law, w.before args s = true) : CallW room_1 s args RL RX5 68 yX5_would cX5_would 3 (some .int) wsX5_would rm_X5_would 0 0 2 :=
  cwV 2 hts gL_law_X5_would rfl rfl rfl (by decide +kernel) ⟨Nat.le_of_ble_eq_true rfl, Nat.le_of_ble_eq_true rfl⟩
set_option maxRecDepth 20000 in
theorem cwL_X4_leastRoom {s : State} {args : Array Value} (hts : ∀ w ∈ wsL_law, w.before args s = true) : CallW room_1 s args RL RX4 69 yX4_leastRoom cX4_leastRoom 3 (some .int) wsX4_leastRoom rm_X4_leastRoom 0 0 1 :=
  cwV 1 hts gL_law_X4_leastRoom rfl rfl rfl (by decide +kernel) ⟨Nat.le_of_ble_eq_true rfl, Nat.le_of_ble_eq_true rfl⟩
set_option maxRecDepth 20000 in
theorem cwL_X5_leastRoom {s : State} {args : Array Value} (hts : ∀ w ∈ wsL_law, w.before args s = true) : CallW room_1 s args RL RX5 72 yX5_leastRoom cX5_leastRoom 3 (some .int) wsX5_leastRoom rm_X5_leastRoom 0 0 1 :=
  cwV 1 hts gL_law_X5_leastRoom rfl rfl rfl (by decide +kernel) ⟨Nat.le_of_ble_eq_true rfl, Nat.le_of_ble_eq_true rfl⟩
set_option maxRecDepth 20000 in
theorem cwL_X4_bestOut {s : State} {args : Array Value} (hts : ∀ w ∈ wsL_law, w.before args s = true) : CallW room_1 s args RL RX4 73 yX4_bestOut cX4_bestOut 7 (some .int) wsX4_bestOut rm_X4_bestOut 0 0 2 :=
  cwV 2 hts gL_law_X4_bestOut rfl rfl rfl (by decide +kernel) ⟨Nat.le_of_ble_eq_true rfl, Nat.le_of_ble_eq_true rfl⟩
set_option maxRecDepth 20000 in
theorem cwL_X5_bestOut {s : State} {args : Array Value} (hts : ∀ w ∈ wsL_law, w.before args s = true) : CallW room_1 s args RL RX5 76 yX5_bestOut cX5_bestOut 7 (some .int) wsX5_bestOut rm_X5_bestOut 0 0 2 :=
  cwV 2 hts gL_law_X5_bestOut rfl rfl rfl (by decide +kernel) ⟨Nat.le_of_ble_eq_true rfl, Nat.le_of_ble_eq_true rfl⟩
set_option maxRecDepth 20000 in
theorem cwL_X4_put {s : State} {args : Array Value} (hts : ∀ w ∈ wsL_law, w.before args s = true) : CallW room_1 s args RL RX4 79 yX4_put cX4_put 4 (some .int) wsX4_put rm_X4_put 0 0 1 :=
  cwV 1 hts gL_law_X4_put rfl rfl rfl (by decide +kernel) ⟨Nat.le_of_ble_eq_true rfl, Nat.le_of_ble_eq_true rfl⟩
set_option maxRecDepth 20000 in
theorem cwL_X5_put {s : State} {args : Array Value} (hts : ∀ w ∈ wsL_law, w.before args s = true) : CallW room_1 s args RL RX5 83 yX5_put cX5_put 5 (some .int) wsX5_put rm_X5_put 0 0 1 :=
  cwV 1 hts gL_law_X5_put rfl rfl rfl (by decide +kernel) ⟨Nat.le_of_ble_eq_true rfl, Nat.le_of_ble_eq_true rfl⟩
set_option maxRecDepth 20000 in
theorem cwL_X4_wipe {s : State} {args : Array Value} (hts : ∀ w ∈ wsL_law, w.before args s = true) : CallW room_1 s args RL RX4 84 yX4_wipe cX4_wipe 2 (some .int) wsX4_wipe rm_X4_wipe 0 0 0 :=
  cwV 0 hts gL_law_X4_wipe rfl rfl rfl (by decide +kernel) ⟨Nat.le_of_ble_eq_true rfl, Nat.le_of_ble_eq_true rfl⟩
set_option maxRecDepth 20000 in
theorem cwL_X5_wipe {s : State} {args : Array Value} (hts : ∀ w ∈ wsL_law, w.before args s = true) : CallW room_1 s args RL RX5 87 yX5_wipe cX5_wipe 2 (some .int) wsX5_wipe rm_X5_wipe 0 0 0 :=
  cwV 0 hts gL_law_X5_wipe rfl rfl rfl (by decide +kernel) ⟨Nat.le_of_ble_eq_true rfl, Nat.le_of_ble_eq_true rfl⟩
set_option maxRecDepth 20000 in
theorem cwL_X4_fault {s : State} {args : Array Value} (hts : ∀ w ∈ wsL_law, w.before args s = true) : CallW room_1 s args RL RX4 88 yX4_fault cX4_fault 1 (some .int) wsX4_fault rm_X4_fault 0 0 0 :=
  cwV 0 hts gL_law_X4_fault rfl rfl rfl (by decide +kernel) ⟨Nat.le_of_ble_eq_true rfl, Nat.le_of_ble_eq_true rfl⟩
set_option maxRecDepth 20000 in
theorem cwL_X5_fault {s : State} {args : Array Value} (hts : ∀ w ∈ wsL_law, w.before args s = true) : CallW room_1 s args RL RX5 91 yX5_fault cX5_fault 1 (some .int) wsX5_fault rm_X5_fault 0 0 0 :=
  cwV 0 hts gL_law_X5_fault rfl rfl rfl (by decide +kernel) ⟨Nat.le_of_ble_eq_true rfl, Nat.le_of_ble_eq_true rfl⟩
set_option maxRecDepth 20000 in
theorem cwL_X4_carryOut {s : State} {args : Array Value} (hts : ∀ w ∈ wsL_law, w.before args s = true) : CallW room_1 s args RL RX4 92 yX4_carryOut cX4_carryOut 4 (some .int) wsX4_carryOut rm_X4_carryOut 9 340 0 :=
  cwV 0 hts gL_law_X4_carryOut rfl rfl rfl (by decide +kernel) ⟨Nat.le_of_ble_eq_true rfl, Nat.le_of_ble_eq_true rfl⟩
set_option maxRecDepth 20000 in
theorem cwL_X5_carryOut {s : State} {args : Array Value} (hts : ∀ w ∈ wsL_law, w.before args s = true) : CallW room_1 s args RL RX5 95 yX5_carryOut cX5_carryOut 2 (some .int) wsX5_carryOut rm_X5_carryOut 0 0 0 :=
  cwV 0 hts gL_law_X5_carryOut rfl rfl rfl (by decide +kernel) ⟨Nat.le_of_ble_eq_true rfl, Nat.le_of_ble_eq_true rfl⟩
set_option maxRecDepth 20000 in
theorem cwL_X4_undo {s : State} {args : Array Value} (hts : ∀ w ∈ wsL_law, w.before args s = true) : CallW room_1 s args RL RX4 96 yX4_undo cX4_undo 2 (some .int) wsX4_undo rm_X4_undo 0 0 0 :=
  cwV 0 hts gL_law_X4_undo rfl rfl rfl (by decide +kernel) ⟨Nat.le_of_ble_eq_true rfl, Nat.le_of_ble_eq_true rfl⟩
set_option maxRecDepth 20000 in
theorem cwL_X5_undo {s : State} {args : Array Value} (hts : ∀ w ∈ wsL_law, w.before args s = true) : CallW room_1 s args RL RX5 99 yX5_undo cX5_undo 1 (some .int) wsX5_undo rm_X5_undo 0 0 0 :=
  cwV 0 hts gL_law_X5_undo rfl rfl rfl (by decide +kernel) ⟨Nat.le_of_ble_eq_true rfl, Nat.le_of_ble_eq_true rfl⟩
set_option maxRecDepth 20000 in
theorem cwL_X4_save {s : State} {args : Array Value} (hts : ∀ w ∈ wsL_law, w.before args s = true) : CallW room_1 s args RL RX4 100 yX4_save cX4_save 2 (some .int) wsX4_save rm_X4_save 9 340 1 :=
  cwV 1 hts gL_law_X4_save rfl rfl rfl (by decide +kernel) ⟨Nat.le_of_ble_eq_true rfl, Nat.le_of_ble_eq_true rfl⟩
set_option maxRecDepth 20000 in
theorem cwL_X5_save {s : State} {args : Array Value} (hts : ∀ w ∈ wsL_law, w.before args s = true) : CallW room_1 s args RL RX5 103 yX5_save cX5_save 2 (some .int) wsX5_save rm_X5_save 0 0 1 :=
  cwV 1 hts gL_law_X5_save rfl rfl rfl (by decide +kernel) ⟨Nat.le_of_ble_eq_true rfl, Nat.le_of_ble_eq_true rfl⟩
set_option maxRecDepth 20000 in
theorem cwL_X4_restore {s : State} {args : Array Value} (hts : ∀ w ∈ wsL_law, w.before args s = true) : CallW room_1 s args RL RX4 104 yX4_restore cX4_restore 2 (some .int) wsX4_restore rm_X4_restore 9 340 1 :=
  cwV 1 hts gL_law_X4_restore rfl rfl rfl (by decide +kernel) ⟨Nat.le_of_ble_eq_true rfl, Nat.le_of_ble_eq_true rfl⟩
set_option maxRecDepth 20000 in
theorem cwL_X5_restore {s : State} {args : Array Value} (hts : ∀ w ∈ wsL_law, w.before args s = true) : CallW room_1 s args RL RX5 107 yX5_restore cX5_restore 2 (some .int) wsX5_restore rm_X5_restore 0 0 1 :=
  cwV 1 hts gL_law_X5_restore rfl rfl rfl (by decide +kernel) ⟨Nat.le_of_ble_eq_true rfl, Nat.le_of_ble_eq_true rfl⟩
