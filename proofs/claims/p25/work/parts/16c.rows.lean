/-! ===== calls that write nothing ===== -/
theorem upds_same : ∀ (is : List Nat) (wc ws : va_W), is.map (fun i => ws[i]?) = wc.map some → upds ws is wc = ws
  | [], [], _, _ => rfl
  | [], _ :: _, _, h => by cases h
  | _ :: _, [], _, h => by cases h
  | i :: is, x :: xs, ws, h => by
    simp only [List.map_cons, List.cons.injEq] at h
    have e : ws.set i x = ws := by
      apply List.ext_getElem?
      intro j
      by_cases hj : i = j
      · subst hj
        rw [List.getElem?_set_self (List.getElem?_eq_some_iff.mp h.1).1, h.1]
      · rw [List.getElem?_set_ne hj]
    show upds (ws.set i x) is xs = ws
    rw [e]
    exact upds_same is xs ws h.2
section Rows0
variable {p : Program} {l : Launch} {e : Env} {R : Room} {s : State} {m : MethodId} {args : Array Value} {below : List Frame} {meth : Method} {c : Code} {H : Heap} {locs : List Loc} {cells slots : Nat} {Q : State → Prop}
variable {cc : ByteArray} {pc : Nat} {ls : Array Slot} {rest st0 st1 : List Value} {G : va_G} {tys : List (ClassId × FieldType)} {A : Nat → Prop} {own : String} {Ts : List Cond} {nL : Nat} {w : va_W} {a : Nat}
theorem r_callV0 (C : Cx p s m args c G tys A own cc Ts nL) (h : Hx s G A w H locs) {y : MethodName} {bytes : ByteArray} {maxL n index ci : Nat} {ret : Option FieldType} {wsy : List Cond} {rmy : Room} {Cn : String} {T : u_T} {N b : Nat} {fs As : List Value} {wc : va_W} {res : Option Value}
    (cw : CallW R s args own Cn index y bytes maxL ret wsy rmy 0 0 n) (ct : CT l y wsy rmy G tys (.ref b :: As) wc res wc) (is : List Nat) (hC : is.map (fun i => w[i]?) = wc.map some) (hn : va_nd is = true) (hrc : vwCl[ci]? = some (Cn, T, N)) (q0 : Nat) (hq0 : w[q0]? = some (b, .inr (ci, fs)))
    (hlen : As.length = n) (hls : ls.size = nL) (hst0 : st0 = As.reverse ++ .ref b :: rest) (hroom : (rest.map fun v => v.category).sum ≤ 8) (hf : cells ≤ R.cells ∧ slots ≤ R.slots) (hst : res.toList ++ rest = st1) (hdg : decode cc pc = .ok (.invokevirtual index, 3))
    (kk : ∀ (H1 : Heap) (locs1 : List Loc), Hx s G A w H1 locs1 → W p l e R s m args below meth c H1 locs1 cells slots Q (F0 m (pc + 3) ls st1)) : W p l e R s m args below meth c H locs cells slots Q (F0 m pc ls st0) :=
  r_callV C h cw ct is hC hn rfl hrc q0 hq0 hlen hls hst0 hroom hf w (upds_same is wc w hC) hst hdg kk
theorem r_callS0 (C : Cx p s m args c G tys A own cc Ts nL) (h : Hx s G A w H locs) {y : MethodName} {bytes : ByteArray} {maxL n index : Nat} {ret : Option FieldType} {wsy : List Cond} {rmy : Room} {As : List Value} {wc : va_W} {res : Option Value}
    (cw : CallB R s args own index y bytes maxL ret wsy rmy 0 0 n ∧ (Cond.static y).before args s = true) (ct : CT l y wsy rmy G tys As wc res wc) (is : List Nat) (hC : is.map (fun i => w[i]?) = wc.map some) (hn : va_nd is = true)
    (hlen : As.length = n) (hls : ls.size = nL) (hst0 : st0 = As.reverse ++ rest) (hroom : (rest.map fun v => v.category).sum ≤ 8) (hf : cells ≤ R.cells ∧ slots ≤ R.slots) (hst : res.toList ++ rest = st1) (hdg : decode cc pc = .ok (.invokestatic index, 3))
    (kk : ∀ (H1 : Heap) (locs1 : List Loc), Hx s G A w H1 locs1 → W p l e R s m args below meth c H1 locs1 cells slots Q (F0 m (pc + 3) ls st1)) : W p l e R s m args below meth c H locs cells slots Q (F0 m pc ls st0) :=
  r_callS C h cw ct is hC hn rfl hlen hls hst0 hroom hf w (upds_same is wc w hC) hst hdg kk
end Rows0
