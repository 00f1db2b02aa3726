/-! ===== what holds of the law's world between two calls ===== -/
def LWk (cI cC cZ cQ : ClassId) (d0 B T : Nat) (n0 : Int32) (k : Nat) (w : va_W) : Prop := ∃ (α β : Nat → Nat) (S V : T6) (sl h0 h1 p0 p1 o : Nat) (fs fh : Nat → Option Nat) (Ch : Nat → Option T6) (wg : va_W) (ch : Nat → Int32) (pl pa po pf ps : Int32), RGs cI fh Ch 7 wg ∧ NS B T S ∧ HS B T Ch o k ∧ S.1 0 = n0 ∧ w = (catW ([[(d0, .inr (4, [.ref (α 0), .ref (β 0), .ref sl, .ref h0, .ref p0]))], wS cI α S, wS cI β V, [(sl, qA cQ 2 fs)], [(h0, .inr (0, [.ref h1, .int (nI o), .int (nI k)]))], [(h1, qA cQ 7 fh)], wg, wPd cC p0 p1 ch pl pa po pf ps] : List va_W))
theorem Hx.nil {s : State} {G : va_G} {A : Nat → Prop} {w : va_W} {H : Heap} {locs : List Loc} (h : Hx s G A w H locs) : Hx s G A (w ++ []) H locs := by rw [List.append_nil]; exact h
theorem Hx.unnil {s : State} {G : va_G} {A : Nat → Prop} {w : va_W} {H : Heap} {locs : List Loc} (h : Hx s G A (w ++ []) H locs) : Hx s G A w H locs := by rw [List.append_nil] at h; exact h
theorem aI1 (i : Nat) : nI i + 1 = nI (i + 1) := nI_1 i
theorem aI2 (i : Nat) : nI i + 2 = nI (i + 2) := by rw [li_2, nI_add]
def po_act (cI cC cZ cQ : ClassId) (d0 B T : Nat) (n0 : Int32) (k : Nat) : Option Value → va_W → Prop := fun res w' => ∃ (r n1 : Int32) (k1 : Nat), res = some (.int r) ∧ (r < 0 → k1 = k ∧ n1 = n0) ∧ LWk cI cC cZ cQ d0 (B + 99) T n1 k1 w'
theorem LWk.mono {cI cC cZ cQ : ClassId} {d0 B B' T T' : Nat} {n0 : Int32} {k : Nat} {w : va_W} (h : LWk cI cC cZ cQ d0 B T n0 k w) (hB : B ≤ B') (hT : T ≤ T') : LWk cI cC cZ cQ d0 B' T' n0 k w := by
  obtain ⟨α, β, S, V, sl, h0, h1, p0, p1, o, fs, fh, Ch, wg, ch, pl, pa, po, pf, ps, hRg, hN, hH, hn, e⟩ := h
  exact ⟨α, β, S, V, sl, h0, h1, p0, p1, o, fs, fh, Ch, wg, ch, pl, pa, po, pf, ps, hRg, hN.mono hB hT, hH.mono hB hT, hn, e⟩
