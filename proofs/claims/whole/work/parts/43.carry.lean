/-! ===== the orders of a text, in lockstep ===== -/
def fCO_b (rec : T6 → Int32 → Int32 → Int32 → Int32 → Int32 → Int32 → Int32 → Option (Int32 × T6 × Int32 × Int32 × Int32 × Int32)) (ch : Nat → Int32) (pl : Int32) (S : T6) (pa po pf ps dn more i : Int32) : Option (Int32 × T6 × Int32 × Int32 × Int32 × Int32) :=
  (if more = 0 then some (dn, S, pa, po, pf, ps)
  else
  (if 80 ≤ i then some (dn, S, pa, po, pf, ps)
  else
  ob5 (fX1_readOrder ch pl pa po pf ps) fun r pa po pf ps =>
  (if r = 0 then rec S pa po pf ps dn 0 (i + 1)
  else
  ob7 (fX4_carryOutOrder S.1 S.2.1 S.2.2.1 S.2.2.2.1 S.2.2.2.2.1 S.2.2.2.2.2 po pf ps) fun r2 nu va qu sc lo wt =>
  (if r2 < 0 then rec (nu, va, qu, sc, lo, wt) pa po pf ps dn 0 (i + 1)
  else
  ob2 (fX1_readSign ch pl pa 59) fun r3 pa =>
  rec (nu, va, qu, sc, lo, wt) pa po pf ps (dn + 1) r3 (i + 1)))))
def fCO (ch : Nat → Int32) (pl : Int32) : Nat → T6 → Int32 → Int32 → Int32 → Int32 → Int32 → Int32 → Int32 → Option (Int32 × T6 × Int32 × Int32 × Int32 × Int32)
  | 0 => fun _ _ _ _ _ _ _ _ => none
  | n + 1 => fCO_b (fCO ch pl n) ch pl
theorem co_stop (ch : Nat → Int32) (pl : Int32) (f : Nat) (S : T6) (pa po pf ps dn i : Int32) : fCO ch pl (f + 1) S pa po pf ps dn 0 i = some (dn, S, pa, po, pf, ps) := by
  show fCO_b (fCO ch pl f) ch pl S pa po pf ps dn 0 i = _
  unfold fCO_b
  rw [if_pos e00]
theorem co_loop {p : Nat → Nat} {n : Nat} {ch mpad : Nat → Int32} (h : PD p n ch mpad) (ords past : Nat → Int32) (kept mpl mat : Int32) (M : Nat) (hM : M ≤ 40) : ∀ (f g d k B : Nat) (S : T6) (z : Nat → Nat) (po pf ps : Int32), chain p n ords M d k → d ≤ M → k ≤ n → d + 1 < f → d + 1 < g → SS B S z → 200000 ≤ B → B + 99 * d + 99 < 2000000000 → ∃ c S' pa' po' pf' ps' z', c ≤ M ∧ fCO ch (nI n) f S (nI k) po pf ps (nI (M - d)) 1 (nI (M - d)) = some (nI c, S', pa', po', pf', ps') ∧ fX5_carryOut_21 g (fI z) past kept mpad mpl mat ords (nI M) (nI (M - d)) = some (nI c, fI z', past, kept, mpl, mat, ords, nI M) ∧ SS (B + 99 * d) S' z' := by
  intro f
  induction f with
  | zero => intro g d k B S z po pf ps _ _ _ h1; omega
  | succ f ih =>
    intro g d k B S z po pf ps hc hdM hk hf hg hS hB hB2
    obtain ⟨g, rfl⟩ : ∃ g', g = g' + 1 + 1 := ⟨g - 2, by omega⟩
    obtain ⟨f, rfl⟩ : ∃ f', f = f' + 1 := ⟨f - 1, by omega⟩
    have hn := h.1
    cases d with
    | zero => exact hc.elim
    | succ d =>
      obtain ⟨o, v, s, k', hr, w1, w2, w3, hend⟩ := hc
      obtain ⟨b1, b2, b3, b4, b5⟩ := ordR_b hr
      have e1 : fCO ch (nI n) (f + 1 + 1) S (nI k) po pf ps (nI (M - (d + 1))) 1 (nI (M - (d + 1))) = fCO_b (fCO ch (nI n) (f + 1)) ch (nI n) S (nI k) po pf ps (nI (M - (d + 1))) 1 (nI (M - (d + 1))) := rfl
      have e2 : fX5_carryOut_21 (g + 1 + 1) (fI z) past kept mpad mpl mat ords (nI M) (nI (M - (d + 1))) = fX5_carryOut_21_b (fX5_carryOut_21 (g + 1)) (fI z) past kept mpad mpl mat ords (nI M) (nI (M - (d + 1))) := rfl
      rw [e1, e2]
      unfold fCO_b fX5_carryOut_21_b
      rw [if_neg n10, li_80, if_neg (fun e => by have := (nI_le31 (by omega) (by omega)).1 e; omega), if_neg (fun e => by have := (nI_le31 (by omega) (by omega)).1 e; omega)]
      rcases order_c h k hk po pf ps with ⟨o2, v2, s2, k2, r2, c1⟩ | ⟨r2, -⟩
      · rw [hr] at r2
        cases r2
        rw [c1, ob5_ev, if_neg n10]
        obtain ⟨a, va, q, c, l, t, rfl, r, hq, hI, hN⟩ := hS
        have op := order_op hB (by omega) a va q c l t z r hq hI o v s (M - (d + 1)) ords b3 b4 b5 (by omega) ⟨w1, w2, w3⟩
        dsimp only
        rcases op with ⟨x, x0, oc, od⟩ | ⟨x, a', v', q', c', l', t', z', x0, oc, od, r', hq', hI', hN'⟩
        · rw [oc, od, ob7_ev, ob2_ev, if_pos x0, if_pos e00, co_stop]
          exact ⟨M - (d + 1), _, _, _, _, _, z, by omega, rfl, rfl, a, va, q, c, l, t, rfl, r, hq, hI.mono (Nat.le_refl _) (by omega) (Nat.le_refl _) (Nat.le_refl _), hN⟩
        · rw [oc, od, ob7_ev, ob2_ev, if_neg (nI_pos (by omega)), if_neg n10, li_59, sign_c h k' 59 (by omega) (by omega)]
          simp only [nm_ev, nI_1]
          have em : M - (d + 1) + 1 = M - d := by omega
          rw [em]
          rcases hend with ⟨d0, kn⟩ | ⟨d0, k59, hc2⟩
          · subst d0 kn
            have hl : ¬ lk p k' k' = 59 := by unfold lk; rw [if_neg (by omega)]; omega
            rw [if_neg hl, ob2_ev, co_stop]
            have e3 : fX5_carryOut_21 (g + 1) (fI z') past kept mpad mpl mat ords (nI M) (nI (M - 0)) = fX5_carryOut_21_b (fX5_carryOut_21 g) (fI z') past kept mpad mpl mat ords (nI M) (nI (M - 0)) := rfl
            rw [e3]
            unfold fX5_carryOut_21_b
            rw [if_pos ((nI_le31 (by omega) (by omega)).2 (by omega))]
            exact ⟨M - 0, _, _, _, _, _, z', by omega, rfl, rfl, a', v', q', c', l', t', rfl, r', hq', hI'.mono (Nat.le_refl _) (by omega) (Nat.le_refl _) (Nat.le_refl _), hN' hN⟩
          · have hlt := lk_lt (p := p) (n := n) (k := k') (by omega)
            rw [if_pos k59, ob2_ev]
            obtain ⟨c2, S', pa', po', pf', ps', z2, u1, u2, u3, u4⟩ := ih (g + 1) d (k' + 1) (B + 99) (fI a', fI v', fI q', fI c', fI l', nI t') z' (nI o) (nI v) (nI s) hc2 (by omega) (by omega) (by omega) (by omega) ⟨a', v', q', c', l', t', rfl, r', hq', hI', hN' hN⟩ (by omega) (by omega)
            refine ⟨c2, S', pa', po', pf', ps', z2, u1, u2, u3, ?_⟩
            rw [show B + 99 * (d + 1) = B + 99 + 99 * d by omega]
            exact u4
      · rw [hr] at r2
        cases r2
