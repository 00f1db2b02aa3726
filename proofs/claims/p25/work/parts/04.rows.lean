/-! ===== rows over the bundles ===== -/
section CxAcc
variable {p : Program} {s : State} {m : MethodId} {args : Array Value} {c : Code} {G : va_G} {tys : List (ClassId × FieldType)} {A : Nat → Prop} {own : String} {cc : ByteArray} {Ts : List Cond} {nL : Nat}
theorem Cx.hx (C : Cx p s m args c G tys A own cc Ts nL) : p.tables.exec = Jvm.exec := C.1
theorem Cx.hb (C : Cx p s m args c G tys A own cc Ts nL) : c.code = cc := C.2.1
theorem Cx.hml (C : Cx p s m args c G tys A own cc Ts nL) : c.maxLocals = nL := C.2.2.1
theorem Cx.hown (C : Cx p s m args c G tys A own cc Ts nL) : s.vm.findClass own = some m.cls := C.2.2.2.1
theorem Cx.hts (C : Cx p s m args c G tys A own cc Ts nL) : ∀ w ∈ Ts, w.before args s = true := C.2.2.2.2.1
theorem Cx.hK (C : Cx p s m args c G tys A own cc Ts nL) : va_K G vwCl tys s := C.2.2.2.2.2.1
theorem Cx.nw (C : Cx p s m args c G tys A own cc Ts nL) : NW s := C.2.2.2.2.2.2.1
theorem Cx.hA (C : Cx p s m args c G tys A own cc Ts nL) : ∀ q, s.heap.size ≤ q → A q := C.2.2.2.2.2.2.2.1
theorem Cx.sf (C : Cx p s m args c G tys A own cc Ts nL) : SF A s s.heap := C.2.2.2.2.2.2.2.2
theorem Cx.fix (C : Cx p s m args c G tys A own cc Ts nL) : CallFix p m c cc nL s args Ts own := ⟨C.hx, C.hb, C.hml, C.hown, C.hts⟩
end CxAcc
section Rows
variable {p : Program} {l : Launch} {e : Env} {R : Room} {s : State} {m : MethodId} {args : Array Value} {below : List Frame} {meth : Method} {c : Code} {H : Heap} {locs : List Loc} {cells slots : Nat} {Q : State → Prop}
variable {cc : ByteArray} {pc : Nat} {ls : Array Slot} {rest st0 st1 : List Value} {G : va_G} {tys : List (ClassId × FieldType)} {A : Nat → Prop} {own : String} {Ts : List Cond} {nL : Nat} {w : va_W} {a : Nat}
theorem r_get (C : Cx p s m args c G tys A own cc Ts nL) (h : Hx s G A w H locs) (q0 k : Nat) {ci index N : Nat} {Cn : String} {T : u_T} {fs : List Value} {v : Value} (he : w[q0]? = some (a, .inr (ci, fs))) (hc : vwCl[ci]? = some (Cn, T, N)) (hk : k < N) (hin : ∀ x ∈ u_ws Cn T N, x ∈ Ts) (hl : Cond.fieldLink own index (T k).1 (T k).2.1 (T k).2.2.1 ∈ Ts) (hv : fs[k]? = some v) (hdg : decode cc pc = .ok (.getfield index, 3))
    (kk : W p l e R s m args below meth c H locs cells slots Q (F0 m (pc + 3) ls (v :: rest))) : W p l e R s m args below meth c H locs cells slots Q (F0 m pc ls (.ref a :: rest)) :=
  va_get C.hx C.hb C.hts hin C.hown C.hK h.1 q0 he hc k hk (C.hts _ hl) (fun _ h9 => h9) hv hdg kk
theorem r_getN (C : Cx p s m args c G tys A own cc Ts nL) (h : Hx s G A w H locs) (q0 k : Nat) {ci index N : Nat} {Cn host : String} {T : u_T} {fs : List Value} {v : Value} (he : w[q0]? = some (a, .inr (ci, fs))) (hc : vwCl[ci]? = some (Cn, T, N)) (hk : k < N) (hin : ∀ x ∈ u_ws Cn T N, x ∈ Ts) (hl : (own, index, (T k).1, (T k).2.1, (T k).2.2.1, host) ∈ nwF) (hv : fs[k]? = some v) (hdg : decode cc pc = .ok (.getfield index, 3))
    (kk : W p l e R s m args below meth c H locs cells slots Q (F0 m (pc + 3) ls (v :: rest))) : W p l e R s m args below meth c H locs cells slots Q (F0 m pc ls (.ref a :: rest)) :=
  va_getN C.hx C.hb C.hts hin C.hown C.hK h.1 q0 he hc k hk (va_Nw.use rfl (C.nw.1 _ hl)) (fun _ h9 => h9) hv hdg kk
theorem r_put (C : Cx p s m args c G tys A own cc Ts nL) (h : Hx s G A w H locs) (q0 k : Nat) {ci index N : Nat} {Cn : String} {T : u_T} {fs : List Value} {v : Value} {ty0 : Nat → FieldType} (he : w[q0]? = some (a, .inr (ci, fs))) (hc : vwCl[ci]? = some (Cn, T, N)) (hk : k < N) (hin : ∀ x ∈ u_ws Cn T N, x ∈ Ts) (hty : ∀ k, k < N → parseFieldDescriptor (T k).2.2.1 = some (ty0 k)) (hnm : ∀ a, a < N → ∀ b, b < N → a ≠ b → (T a).2.1 ≠ (T b).2.1) (hl : Cond.fieldLink own index (T k).1 (T k).2.1 (T k).2.2.1 ∈ Ts) (hfin : (T k).2.2.2 = false) (hn : narrow (ty0 k) v = v) (hfit : fits (ty0 k) v = true) (hlen : k < fs.length) (w' : va_W) (hw : w.set q0 (a, .inr (ci, fs.set k v)) = w') (hdg : decode cc pc = .ok (.putfield index, 3))
    (kk : ∀ (H1 : Heap) (locs1 : List Loc), Hx s G A w' H1 locs1 → W p l e R s m args below meth c H1 locs1 cells slots Q (F0 m (pc + 3) ls rest)) : W p l e R s m args below meth c H locs cells slots Q (F0 m pc ls (v :: .ref a :: rest)) := by
  subst hw
  exact va_put C.hx C.hb C.hts hin ty0 hty hnm C.hown C.hK h.1 h.2.1 h.2.2 q0 he hc k hk (C.hts _ hl) (fun _ h9 => h9) hfin (hty k hk) hn hfit hlen hdg (fun H1 locs1 a1 a2 a3 => kk H1 locs1 ⟨a1, a2, a3⟩)
theorem r_putN (C : Cx p s m args c G tys A own cc Ts nL) (h : Hx s G A w H locs) (q0 k : Nat) {ci index N : Nat} {Cn host : String} {T : u_T} {fs : List Value} {v : Value} {ty0 : Nat → FieldType} (he : w[q0]? = some (a, .inr (ci, fs))) (hc : vwCl[ci]? = some (Cn, T, N)) (hk : k < N) (hin : ∀ x ∈ u_ws Cn T N, x ∈ Ts) (hty : ∀ k, k < N → parseFieldDescriptor (T k).2.2.1 = some (ty0 k)) (hnm : ∀ a, a < N → ∀ b, b < N → a ≠ b → (T a).2.1 ≠ (T b).2.1) (hl : (own, index, (T k).1, (T k).2.1, (T k).2.2.1, host) ∈ nwF) (hfin : (T k).2.2.2 = false) (hn : narrow (ty0 k) v = v) (hfit : fits (ty0 k) v = true) (hlen : k < fs.length) (w' : va_W) (hw : w.set q0 (a, .inr (ci, fs.set k v)) = w') (hdg : decode cc pc = .ok (.putfield index, 3))
    (kk : ∀ (H1 : Heap) (locs1 : List Loc), Hx s G A w' H1 locs1 → W p l e R s m args below meth c H1 locs1 cells slots Q (F0 m (pc + 3) ls rest)) : W p l e R s m args below meth c H locs cells slots Q (F0 m pc ls (v :: .ref a :: rest)) := by
  subst hw
  exact va_putN C.hx C.hb C.hts hin ty0 hty hnm C.hown C.hK h.1 h.2.1 h.2.2 q0 he hc k hk (va_Nw.use rfl (C.nw.1 _ hl)) (fun _ h9 => h9) hfin (hty k hk) hn hfit hlen hdg (fun H1 locs1 a1 a2 a3 => kk H1 locs1 ⟨a1, a2, a3⟩)
theorem r_putF (C : Cx p s m args c G tys A own cc Ts nL) (h : Hx s G A w H locs) (hin2 : meth.name = "<init>") (q0 k : Nat) {ci index N : Nat} {T : u_T} {fs : List Value} {v : Value} {ty0 : Nat → FieldType} (he : w[q0]? = some (a, .inr (ci, fs))) (hc : vwCl[ci]? = some (own, T, N)) (hk : k < N) (hin : ∀ x ∈ u_ws own T N, x ∈ Ts) (hty : ∀ k, k < N → parseFieldDescriptor (T k).2.2.1 = some (ty0 k)) (hnm : ∀ a, a < N → ∀ b, b < N → a ≠ b → (T a).2.1 ≠ (T b).2.1) (hl : Cond.fieldLink own index (T k).1 (T k).2.1 (T k).2.2.1 ∈ Ts) (hfin : (T k).2.2.2 = true) (hdecl : (T k).1 = own) (hn : narrow (ty0 k) v = v) (hfit : fits (ty0 k) v = true) (hlen : k < fs.length) (w' : va_W) (hw : w.set q0 (a, .inr (ci, fs.set k v)) = w') (hdg : decode cc pc = .ok (.putfield index, 3))
    (kk : ∀ (H1 : Heap) (locs1 : List Loc), Hx s G A w' H1 locs1 → W p l e R s m args below meth c H1 locs1 cells slots Q (F0 m (pc + 3) ls rest)) : W p l e R s m args below meth c H locs cells slots Q (F0 m pc ls (v :: .ref a :: rest)) := by
  subst hw
  exact va_putF C.hx C.hb C.hts hin ty0 hty hnm C.hown C.hK h.1 h.2.1 h.2.2 q0 he hc k hk (C.hts _ hl) (fun _ h9 => h9) hfin hin2 hdecl (hty k hk) hn hfit hlen hdg (fun H1 locs1 a1 a2 a3 => kk H1 locs1 ⟨a1, a2, a3⟩)
theorem r_ald (C : Cx p s m args c G tys A own cc Ts nL) (h : Hx s G A w H locs) (q0 : Nat) {cA : ClassId} {n j : Nat} {f : Nat → Int32} (he : w[q0]? = some (a, .inl (cA, n, .inl f))) (ht : tys[0]? = some (cA, .int)) {i : Int32} (hij : vp_in i n ∧ i.toNatClampNeg = j) (hdg : decode cc pc = .ok (.iaload, 1))
    (kk : W p l e R s m args below meth c H locs cells slots Q (F0 m (pc + 1) ls (.int (f j) :: rest))) : W p l e R s m args below meth c H locs cells slots Q (F0 m pc ls (.int i :: .ref a :: rest)) := by
  obtain ⟨hi, rfl⟩ := hij
  exact va_iald C.hx C.hb C.hK h.1 q0 0 he ht hi hdg kk
theorem r_cald (C : Cx p s m args c G tys A own cc Ts nL) (h : Hx s G A w H locs) (q0 : Nat) {cA : ClassId} {n j : Nat} {f : Nat → Int32} (he : w[q0]? = some (a, .inl (cA, n, .inl f))) (ht : tys[1]? = some (cA, .char)) {i : Int32} (hij : vp_in i n ∧ i.toNatClampNeg = j) (hdg : decode cc pc = .ok (.caload, 1))
    (kk : W p l e R s m args below meth c H locs cells slots Q (F0 m (pc + 1) ls (.int (f j) :: rest))) : W p l e R s m args below meth c H locs cells slots Q (F0 m pc ls (.int i :: .ref a :: rest)) := by
  obtain ⟨hi, rfl⟩ := hij
  exact va_cald C.hx C.hb C.hK h.1 q0 1 he ht hi hdg kk
theorem r_zald (C : Cx p s m args c G tys A own cc Ts nL) (h : Hx s G A w H locs) (q0 : Nat) {cA : ClassId} {n j : Nat} {f : Nat → Int32} (he : w[q0]? = some (a, .inl (cA, n, .inl f))) (ht : tys[2]? = some (cA, .boolean)) {i : Int32} (hij : vp_in i n ∧ i.toNatClampNeg = j) (hdg : decode cc pc = .ok (.baload, 1))
    (kk : W p l e R s m args below meth c H locs cells slots Q (F0 m (pc + 1) ls (.int (f j) :: rest))) : W p l e R s m args below meth c H locs cells slots Q (F0 m pc ls (.int i :: .ref a :: rest)) := by
  obtain ⟨hi, rfl⟩ := hij
  exact va_zald C.hx C.hb C.hK h.1 q0 2 he ht hi hdg kk
theorem r_ast (C : Cx p s m args c G tys A own cc Ts nL) (h : Hx s G A w H locs) (q0 : Nat) {cA : ClassId} {n j : Nat} {f : Nat → Int32} (he : w[q0]? = some (a, .inl (cA, n, .inl f))) (ht : tys[0]? = some (cA, .int)) {i x : Int32} (hij : vp_in i n ∧ i.toNatClampNeg = j) (w' : (Nat → Int32) → va_W) (hw : ∀ f', w.set q0 (a, .inl (cA, n, .inl f')) = w' f') (hdg : decode cc pc = .ok (.iastore, 1))
    (kk : ∀ f' : Nat → Int32, f' = upd f j x → ∀ (H1 : Heap) (locs1 : List Loc), Hx s G A (w' f') H1 locs1 → W p l e R s m args below meth c H1 locs1 cells slots Q (F0 m (pc + 1) ls rest)) : W p l e R s m args below meth c H locs cells slots Q (F0 m pc ls (.int x :: .int i :: .ref a :: rest)) := by
  obtain ⟨hi, rfl⟩ := hij
  exact va_iast C.hx C.hb C.hK h.1 h.2.1 h.2.2 q0 0 he ht hi hdg (fun H1 locs1 a1 a2 a3 => kk _ rfl H1 locs1 (by rw [← hw]; exact ⟨a1, a2, a3⟩))
theorem r_cast (C : Cx p s m args c G tys A own cc Ts nL) (h : Hx s G A w H locs) (q0 : Nat) {cA : ClassId} {n j : Nat} {f : Nat → Int32} (he : w[q0]? = some (a, .inl (cA, n, .inl f))) (ht : tys[1]? = some (cA, .char)) {i x : Int32} (hij : vp_in i n ∧ i.toNatClampNeg = j) (w' : (Nat → Int32) → va_W) (hw : ∀ f', w.set q0 (a, .inl (cA, n, .inl f')) = w' f') (hdg : decode cc pc = .ok (.castore, 1))
    (kk : ∀ f' : Nat → Int32, f' = upd f j (vp_nar .char x) → ∀ (H1 : Heap) (locs1 : List Loc), Hx s G A (w' f') H1 locs1 → W p l e R s m args below meth c H1 locs1 cells slots Q (F0 m (pc + 1) ls rest)) : W p l e R s m args below meth c H locs cells slots Q (F0 m pc ls (.int x :: .int i :: .ref a :: rest)) := by
  obtain ⟨hi, rfl⟩ := hij
  exact va_cast C.hx C.hb C.hK h.1 h.2.1 h.2.2 q0 1 he ht hi hdg (fun H1 locs1 a1 a2 a3 => kk _ rfl H1 locs1 (by rw [← hw]; exact ⟨a1, a2, a3⟩))
theorem r_zast (C : Cx p s m args c G tys A own cc Ts nL) (h : Hx s G A w H locs) (q0 : Nat) {cA : ClassId} {n j : Nat} {f : Nat → Int32} (he : w[q0]? = some (a, .inl (cA, n, .inl f))) (ht : tys[2]? = some (cA, .boolean)) {i x : Int32} (hij : vp_in i n ∧ i.toNatClampNeg = j) (w' : (Nat → Int32) → va_W) (hw : ∀ f', w.set q0 (a, .inl (cA, n, .inl f')) = w' f') (hdg : decode cc pc = .ok (.bastore, 1))
    (kk : ∀ f' : Nat → Int32, f' = upd f j (vp_nar .boolean x) → ∀ (H1 : Heap) (locs1 : List Loc), Hx s G A (w' f') H1 locs1 → W p l e R s m args below meth c H1 locs1 cells slots Q (F0 m (pc + 1) ls rest)) : W p l e R s m args below meth c H locs cells slots Q (F0 m pc ls (.int x :: .int i :: .ref a :: rest)) := by
  obtain ⟨hi, rfl⟩ := hij
  exact va_zast C.hx C.hb C.hK h.1 h.2.1 h.2.2 q0 2 he ht hi hdg (fun H1 locs1 a1 a2 a3 => kk _ rfl H1 locs1 (by rw [← hw]; exact ⟨a1, a2, a3⟩))
theorem r_alen (C : Cx p s m args c G tys A own cc Ts nL) (h : Hx s G A w H locs) (q0 : Nat) {cA : ClassId} {n : Nat} {f : Nat → Int32} (he : w[q0]? = some (a, .inl (cA, n, .inl f))) (ht : tys[0]? = some (cA, .int)) (hdg : decode cc pc = .ok (.arraylength, 1))
    (kk : W p l e R s m args below meth c H locs cells slots Q (F0 m (pc + 1) ls (.int (nI n) :: rest))) : W p l e R s m args below meth c H locs cells slots Q (F0 m pc ls (.ref a :: rest)) :=
  va_alen C.hx C.hb C.hK h.1 q0 0 he ht rfl hdg kk
/-- what arraycopy asks of its numbers -/
abbrev acok (sp dp n : Int32) (n0 n1 : Nat) : Prop := ¬ sp < 0 ∧ ¬ dp < 0 ∧ ¬ n < 0 ∧ sp.toNatClampNeg + n.toNatClampNeg ≤ n0 ∧ dp.toNatClampNeg + n.toNatClampNeg ≤ n1
theorem r_copy (C : Cx p s m args c G tys A own cc Ts nL) (h : Hx s G A w H locs) (hls : ls.size = nL) (q0 q1 : Nat) {index : Nat} {a0 : Nat} {cA : ClassId} {n0 n1 : Nat} {f g : Nat → Int32} (he0 : w[q0]? = some (a0, .inl (cA, n0, .inl f))) (he1 : w[q1]? = some (a, .inl (cA, n1, .inl g))) (ht : tys[0]? = some (cA, .int)) {sp dp n : Int32} (hok : acok sp dp n n0 n1)
    (hlink : Cond.methodLink own index arraycopyName ∈ Ts) (hnat : Cond.native arraycopyName ∈ Ts) (hstat : Cond.static arraycopyName ∈ Ts) (hini : Cond.initialized "java/lang/System" ∈ Ts) (hframes : 1 ≤ R.frames) (hlocals : (rest.map fun v => v.category).sum + (nativeFrameWords "java/lang/System" "arraycopy" 5 + 11) ≤ R.locals) (w' : (Nat → Int32) → va_W) (hw : ∀ f', w.set q1 (a, .inl (cA, n1, .inl f')) = w' f') (hdg : decode cc pc = .ok (.invokestatic index, 3))
    (kk : ∀ f' : Nat → Int32, f' = va_cpy f g sp.toNatClampNeg dp.toNatClampNeg n.toNatClampNeg → ∀ (H1 : Heap) (locs1 : List Loc), Hx s G A (w' f') H1 locs1 → W p l e R s m args below meth c H1 locs1 cells slots Q (F0 m (pc + 3) ls rest)) : W p l e R s m args below meth c H locs cells slots Q (F0 m pc ls (.int n :: .int dp :: .ref a :: .int sp :: .ref a0 :: rest)) := by
  obtain ⟨h1, h2, h3, h4, h5⟩ := hok
  exact va_copyi C.hx C.hb (C.hml.trans hls.symm) C.hown (C.hts _ hlink) (C.hts _ hnat) (C.hts _ hstat) (C.hts _ hini) C.hK h.1 h.2.1 h.2.2 q0 q1 0 0 he0 he1 ht ht rfl h1 h2 h3 h4 h5 (fun i _ => rfl) hframes hlocals hdg (fun H1 locs1 a1 a2 a3 => kk _ rfl H1 locs1 (by rw [← hw]; exact ⟨a1, a2, a3⟩))
theorem r_max (C : Cx p s m args c G tys A own cc Ts nL) (hls : ls.size = nL) {index : Nat} (hlink : Cond.methodLink own index Lib.Math.max.name ∈ Ts) (hstat : Cond.static Lib.Math.max.name ∈ Ts) (hini : Cond.initialized "java/lang/Math" ∈ Ts) (hcode : Cond.code Lib.Math.max.name Lib.Math.max.code 2 (some .int) ∈ Ts) (hframes : 1 ≤ R.frames) (hlocals : (rest.map fun v => v.category).sum + 13 ≤ R.locals) (hc : cells ≤ R.cells) (hs : slots ≤ R.slots) {x y : Int32} (hdg : decode cc pc = .ok (.invokestatic index, 3))
    (kk : W p l e R s m args below meth c H locs cells slots Q (F0 m (pc + 3) ls (.int (if x < y then y else x) :: rest))) : W p l e R s m args below meth c H locs cells slots Q (F0 m pc ls (.int y :: .int x :: rest)) :=
  va_mmax C.hx C.hb (C.hml.trans hls.symm) C.hown (C.hts _ hlink) (C.hts _ hstat) (C.hts _ hini) (C.hts _ hcode) hframes hlocals hc hs hdg kk
theorem r_min (C : Cx p s m args c G tys A own cc Ts nL) (hls : ls.size = nL) {index : Nat} (hlink : Cond.methodLink own index Lib.Math.min.name ∈ Ts) (hstat : Cond.static Lib.Math.min.name ∈ Ts) (hini : Cond.initialized "java/lang/Math" ∈ Ts) (hcode : Cond.code Lib.Math.min.name Lib.Math.min.code 2 (some .int) ∈ Ts) (hframes : 1 ≤ R.frames) (hlocals : (rest.map fun v => v.category).sum + 13 ≤ R.locals) (hc : cells ≤ R.cells) (hs : slots ≤ R.slots) {x y : Int32} (hdg : decode cc pc = .ok (.invokestatic index, 3))
    (kk : W p l e R s m args below meth c H locs cells slots Q (F0 m (pc + 3) ls (.int (if y < x then y else x) :: rest))) : W p l e R s m args below meth c H locs cells slots Q (F0 m pc ls (.int y :: .int x :: rest)) :=
  va_mmin C.hx C.hb (C.hml.trans hls.symm) C.hown (C.hts _ hlink) (C.hts _ hstat) (C.hts _ hini) (C.hts _ hcode) hframes hlocals hc hs hdg kk
theorem r_getsN (C : Cx p s m args c G tys A own cc Ts nL) (h : Hx s G A w H locs) {n host ref : String} {index t : Nat} (hZ : va_Z ref n "[I" (.ref t) A s s.heap) (hl : (own, index, ref, n, "[I", host) ∈ nwF) (hdg : decode cc pc = .ok (.getstatic index, 3))
    (kk : W p l e R s m args below meth c H locs cells slots Q (F0 m (pc + 3) ls (.ref t :: rest))) : W p l e R s m args below meth c H locs cells slots Q (F0 m pc ls rest) :=
  va_getsN C.hx C.hb hZ h.2.2 C.hown (va_Nw.use rfl (C.nw.1 _ hl)) (fun _ h9 => h9) hdg kk
theorem r_ti (C : Cx p s m args c G tys A own cc Ts nL) (h : Hx s G A w H locs) {t j : Nat} {f : Nat → Int32} (hT : va_T .int t 8 (fun j => .int (f j)) A s s.heap) {i : Int32} (hij : vp_in i 8 ∧ i.toNatClampNeg = j) (hdg : decode cc pc = .ok (.iaload, 1))
    (kk : W p l e R s m args below meth c H locs cells slots Q (F0 m (pc + 1) ls (.int (f j) :: rest))) : W p l e R s m args below meth c H locs cells slots Q (F0 m pc ls (.int i :: .ref t :: rest)) := by
  obtain ⟨hi, rfl⟩ := hij
  exact va_ti C.hx C.hb hT h.2.2 hi rfl hdg kk
-- calls
theorem r_back (C : Cx p s m args c G tys A own cc Ts nL) (h : Hx s G A w H locs) {wc wc' : va_W} {res : Option Value} {av : Array Value} (is : List Nat) (hC : is.map (fun i => w[i]?) = wc.map some) (hn : va_nd is = true) (hfst : wc'.map Prod.fst = wc.map Prod.fst) (w' : va_W) (hw : upds w is wc' = w')
    (hr : va_Run p l e R s m args below meth c H locs cells slots 0 0 (F0 m pc ls st0) rest (Qx G res wc' (va_A wc H.size) av) (va_A wc H.size)) (hst : res.toList ++ rest = st1)
    (kk : ∀ (H1 : Heap) (locs1 : List Loc), Hx s G A w' H1 locs1 → W p l e R s m args below meth c H1 locs1 cells slots Q (F0 m (pc + 3) ls st1)) : W p l e R s m args below meth c H locs cells slots Q (F0 m pc ls st0) := by
  subst hw
  subst hst
  have hF := va_free (wc := wc) h.2.1 h.2.2 C.hA is hC
  intro T hT X
  obtain ⟨v, st₀, t, T', L, h0, X', hL, e1, e2, ⟨⟨hv, hp, -⟩, hz, hk⟩, st⟩ := hr T hT X
  cases hv
  rw [h0] at hz hk
  rw [← e1] at hp hz hk
  have hj := va_back h.1 h.2.1 is hC hn hfst hk hp
  obtain ⟨t2, a1, b1⟩ := kk T'.heap (locs ++ L) ⟨hj.1, hj.2, Nat.le_trans h.2.2.1 hz, fun q h1 h2 => by rw [hk q (Nat.lt_of_lt_of_le h1 h.2.2.1) (fun z => h2 (hF q z))]; exact h.2.2.2.1 q h1 h2, fun q hq => by
      rcases List.mem_append.mp hq with h1 | h1
      · exact h.2.2.2.2 q h1
      · exact hF _ (hL q h1)⟩ T' rfl X'
  exact ⟨t2, st t2 a1, b1⟩
theorem r_pre (C : Cx p s m args c G tys A own cc Ts nL) (h : Hx s G A w H locs) {wc : va_W} {av : List Value} (is : List Nat) (hC : is.map (fun i => w[i]?) = wc.map some) (hn : va_nd is = true) : PreS s H (va_Pc av (Pre G tys wc H.size)) av := by
  have hF := va_free (wc := wc) h.2.1 h.2.2 C.hA is hC
  have hfm : is.filterMap (fun i => w[i]?) = wc := by
    have h1 : is.filterMap (fun i => w[i]?) = (is.map (fun i => w[i]?)).filterMap id := by rw [List.filterMap_map]; rfl
    rw [h1, hC, List.filterMap_map]
    exact List.filterMap_some
  refine ⟨Pre.blind, fun U hU hW => ⟨rfl, by rw [hU], by rw [hU]; exact h.1.sub is hfm, va_K.moved hW.alike C.hK, (h.2.1.sub is hn hC).weaken (fun _ _ _ _ => trivial), ?_, NW.warm hW C.nw⟩⟩
  rw [hU]
  exact (C.sf.kept h.2.2.2.1 hF).moved hW.alike
theorem r_callV (C : Cx p s m args c G tys A own cc Ts nL) (h : Hx s G A w H locs) {y : MethodName} {bytes : ByteArray} {maxL n index ci : Nat} {ret : Option FieldType} {wsy : List Cond} {rmy : Room} {Cn : String} {T : u_T} {N b : Nat} {fs As : List Value} {wc wc' : va_W} {res : Option Value}
    (cw : CallW R s args own Cn index y bytes maxL ret wsy rmy 0 0 n) (ct : CT l y wsy rmy G tys (.ref b :: As) wc res wc') (is : List Nat) (hC : is.map (fun i => w[i]?) = wc.map some) (hn : va_nd is = true) (hfst : wc'.map Prod.fst = wc.map Prod.fst) (hrc : vwCl[ci]? = some (Cn, T, N)) (q0 : Nat) (hq0 : w[q0]? = some (b, .inr (ci, fs)))
    (hlen : As.length = n) (hls : ls.size = nL) (hst0 : st0 = As.reverse ++ .ref b :: rest) (hroom : (rest.map fun v => v.category).sum ≤ 8) (hf : cells ≤ R.cells ∧ slots ≤ R.slots) (w' : va_W) (hw : upds w is wc' = w') (hst : res.toList ++ rest = st1) (hdg : decode cc pc = .ok (.invokevirtual index, 3))
    (kk : ∀ (H1 : Heap) (locs1 : List Loc), Hx s G A w' H1 locs1 → W p l e R s m args below meth c H1 locs1 cells slots Q (F0 m (pc + 3) ls st1)) : W p l e R s m args below meth c H locs cells slots Q (F0 m pc ls st0) := by
  have hp := r_pre (av := .ref b :: As) C h is hC hn
  exact r_back C h is hC hn hfst w' hw (va_runV C.fix (ct H.size) cw ⟨hp.1, va_recv C.hK h.1 hrc hq0, hp.2⟩ rfl hlen hls hst0 (lv_room hroom) hdg hf) hst kk
theorem r_callS (C : Cx p s m args c G tys A own cc Ts nL) (h : Hx s G A w H locs) {y : MethodName} {bytes : ByteArray} {maxL n index : Nat} {ret : Option FieldType} {wsy : List Cond} {rmy : Room} {As : List Value} {wc wc' : va_W} {res : Option Value}
    (cw : CallB R s args own index y bytes maxL ret wsy rmy 0 0 n ∧ (Cond.static y).before args s = true) (ct : CT l y wsy rmy G tys As wc res wc') (is : List Nat) (hC : is.map (fun i => w[i]?) = wc.map some) (hn : va_nd is = true) (hfst : wc'.map Prod.fst = wc.map Prod.fst)
    (hlen : As.length = n) (hls : ls.size = nL) (hst0 : st0 = As.reverse ++ rest) (hroom : (rest.map fun v => v.category).sum ≤ 8) (hf : cells ≤ R.cells ∧ slots ≤ R.slots) (w' : va_W) (hw : upds w is wc' = w') (hst : res.toList ++ rest = st1) (hdg : decode cc pc = .ok (.invokestatic index, 3))
    (kk : ∀ (H1 : Heap) (locs1 : List Loc), Hx s G A w' H1 locs1 → W p l e R s m args below meth c H1 locs1 cells slots Q (F0 m (pc + 3) ls st1)) : W p l e R s m args below meth c H locs cells slots Q (F0 m pc ls st0) := by
  exact r_back C h is hC hn hfst w' hw (va_runS C.fix (ct H.size) cw (r_pre C h is hC hn) rfl hlen hls hst0 (lv_room hroom) hdg hf) hst kk
theorem r_callSN (C : Cx p s m args c G tys A own cc Ts nL) (h : Hx s G A w H locs) {y : MethodName} {bytes : ByteArray} {maxL n index : Nat} {ret : Option FieldType} {wsy : List Cond} {rmy : Room} {As : List Value} {wc wc' : va_W} {res : Option Value} {host : String}
    (cw : va_CN R s args own index y host bytes maxL ret wsy rmy 0 0 n ∧ (Cond.static y).before args s = true ∧ True) (ct : CT l y wsy rmy G tys As wc res wc') (is : List Nat) (hC : is.map (fun i => w[i]?) = wc.map some) (hn : va_nd is = true) (hfst : wc'.map Prod.fst = wc.map Prod.fst)
    (hlen : As.length = n) (hls : ls.size = nL) (hst0 : st0 = As.reverse ++ rest) (hroom : (rest.map fun v => v.category).sum ≤ 8) (hf : cells ≤ R.cells ∧ slots ≤ R.slots) (w' : va_W) (hw : upds w is wc' = w') (hst : res.toList ++ rest = st1) (hdg : decode cc pc = .ok (.invokestatic index, 3))
    (kk : ∀ (H1 : Heap) (locs1 : List Loc), Hx s G A w' H1 locs1 → W p l e R s m args below meth c H1 locs1 cells slots Q (F0 m (pc + 3) ls st1)) : W p l e R s m args below meth c H locs cells slots Q (F0 m pc ls st0) := by
  exact r_back C h is hC hn hfst w' hw (va_runSN C.fix (ct H.size) cw (r_pre C h is hC hn) rfl hlen hls hst0 (lv_room hroom) hdg hf) hst kk
-- ends
variable {w' : va_W}
theorem r_iret (C : Cx p s m args c G tys A own cc Ts nL) (h : Hx s G A w' H locs) (hr : meth.sig.returnType = some .int) (hlocks : meth.locks = false) {v : Int32} (hdg : decode cc pc = .ok (.ireturn, 1)) : W p l e R s m args below meth c H locs cells slots (MQ below (Qx G (some (.int v)) w' A) args s cells slots A) (F0 m pc ls [.int v]) :=
  W.iret (v := v) C.hx C.hb hr (fun t ht hW => ⟨⟨rfl, by rw [ht]; exact h.1, h.2.1⟩, h.2.2.F ht⟩) h.2.2.2.2 hdg hlocks
theorem r_zret (C : Cx p s m args c G tys A own cc Ts nL) (h : Hx s G A w' H locs) {ty : FieldType} (hr : meth.sig.returnType = some ty) (hlocks : meth.locks = false) {v : Int32} (hn : narrow ty (.int v) = .int v) (hdg : decode cc pc = .ok (.ireturn, 1)) : W p l e R s m args below meth c H locs cells slots (MQ below (Qx G (some (.int v)) w' A) args s cells slots A) (F0 m pc ls [.int v]) :=
  W.zret (v := v) C.hx C.hb hr hn (fun t ht hW => ⟨⟨rfl, by rw [ht]; exact h.1, h.2.1⟩, h.2.2.F ht⟩) h.2.2.2.2 hdg hlocks
theorem r_lret (C : Cx p s m args c G tys A own cc Ts nL) (h : Hx s G A w' H locs) (hr : meth.sig.returnType = some .long) (hlocks : meth.locks = false) {v : Int64} (hdg : decode cc pc = .ok (.lreturn, 1)) : W p l e R s m args below meth c H locs cells slots (MQ below (Qx G (some (.long v)) w' A) args s cells slots A) (F0 m pc ls [.long v]) :=
  W.lret (v := v) C.hx C.hb hr (fun t ht hW => ⟨⟨rfl, by rw [ht]; exact h.1, h.2.1⟩, h.2.2.F ht⟩) h.2.2.2.2 hdg hlocks
theorem r_vret (C : Cx p s m args c G tys A own cc Ts nL) (h : Hx s G A w' H locs) (hr : meth.sig.returnType = none) (hlocks : meth.locks = false) (hdg : decode cc pc = .ok (.return_, 1)) : W p l e R s m args below meth c H locs cells slots (MQ below (Qx G none w' A) args s cells slots A) (F0 m pc ls []) :=
  W.vret C.hx C.hb hr (fun t ht hW => ⟨⟨rfl, by rw [ht]; exact h.1, h.2.1⟩, h.2.2.F ht⟩) h.2.2.2.2 hdg hlocks
end Rows
/-- the start of a walk -/
theorem CT.of {l : Launch} {y : MethodName} {ws ws' : List Cond} {rm : Room} {G : va_G} {tys : List (ClassId × FieldType)} {av : List Value} {w w' : va_W} {res : Option Value} {cc : ByteArray} {maxL : Nat} {ret : Option FieldType} (own : String) (ho : y.cls = own) (hy : plainName y.cls = true) (hw : ws = Cond.code y cc maxL ret :: ws') (hlen : (lg_sl av).length ≤ maxL)
    (body : ∀ (p : Program) (e : Env) (s : State) (m : MethodId) (args : Array Value) (below : List Frame) (meth : Method) (c : Code) (A : Nat → Prop) (ls : Array Slot), Cx p s m args c G tys A own cc ws maxL → meth.sig.returnType = ret → meth.locks = false → meth.name = y.name → Hx s G A w s.heap [] → lv_has ls maxL (lv_args 0 av) → W p l e rm s m args below meth c s.heap [] 0 0 (MQ below (Qx G res w' A) args s 0 0 A) (F0 m 0 ls [])) : CT l y ws rm G tys av w res w' := by
  subst ho
  intro sz
  refine Met.ofW (cc := cc) (maxL := maxL) (ret := ret) hy hw ?_
  intro p e s m args below meth c s₁ B hml hv
  obtain ⟨rfl, hsz, hP, hK, hD0, hSF, hNW⟩ := hv
  have hts := atoms_spec (ws := ws) B.pre
  have hown : s.vm.findClass y.cls = some m.cls := findClass_of_methodNamed B.named
  subst hsz
  have hl := lv_entry av (n := maxL) hlen
  rw [lg_entry_eq]
  exact body p e s m _ below meth c _ _ ⟨B.exec, B.bytes, hml, hown, hts, hK, hNW, fun q hq => Or.inr hq, hSF⟩ B.returns B.notSynchronized (name_of_methodNamed B.named B.method).1 ⟨hP, hD0.self, va_S.rf⟩ hl
