/-! ===== rows that make cells, rows of states ===== -/
theorem va_RA.inj {U : State} {cA cB : ClassId} {ty : FieldType} (h1 : va_RA U cA ty) (h2 : va_RA U cB ty) : cA = cB := by
  cases ty with
  | object C =>
    obtain ⟨_, _, -, -, -, a⟩ := h1
    obtain ⟨_, _, -, -, -, b⟩ := h2
    exact Option.some.inj (a.symm.trans b)
  | _ =>
    have a : U.vm.findClass _ = some cA := h1
    have b : U.vm.findClass _ = some cB := h2
    exact Option.some.inj (a.symm.trans b)
section RowsM
variable {p : Program} {l : Launch} {e : Env} {R : Room} {s : State} {m : MethodId} {args : Array Value} {below : List Frame} {meth : Method} {c : Code} {H : Heap} {locs : List Loc} {cells slots : Nat} {Q : State → Prop}
variable {cc : ByteArray} {pc : Nat} {ls : Array Slot} {rest st0 st1 : List Value} {G : va_G} {tys : List (ClassId × FieldType)} {A : Nat → Prop} {own : String} {Ts : List Cond} {nL : Nat} {w : va_W} {a : Nat} {post : Option Value → va_W → Prop}
theorem r_new (C : Cx p s m args c G tys A own cc Ts nL) (h : Hx s G A w H locs) {index ci N : Nat} {Cn : String} {T : u_T} (ty : Nat → FieldType) (hin : ∀ x ∈ u_ws Cn T N, x ∈ Ts) (hty : ∀ k, k < N → parseFieldDescriptor (T k).2.2.1 = some (ty k)) (hcl : Cond.classLink own index Cn ∈ Ts) (hinst : Cond.instantiable Cn N ∈ Ts) (hini : Cond.initialized Cn ∈ Ts) (hc : vwCl[ci]? = some (Cn, T, N)) {fs : List Value} (hfs : ∀ j, j < N → defaultValue (ty j) = vp_V fs j) (hcells : cells + 1 ≤ R.cells) (hslots : slots + N ≤ R.slots) (hdg : decode cc pc = .ok (.new index, 3))
    (kk : ∀ (q : Nat) (H1 : Heap), Hx s G A (w ++ [(q, .inr (ci, fs))]) H1 locs → W p l e R s m args below meth c H1 locs (cells + 1) (slots + N) Q (F0 m (pc + 3) ls (.ref q :: rest))) : W p l e R s m args below meth c H locs cells slots Q (F0 m pc ls rest) :=
  va_new C.hx C.hb C.hts hin ty hty C.hown (C.hts _ hcl) (C.hts _ hinst) (C.hts _ hini) C.hK h.1 h.2.1 h.2.2 C.hA hc hfs hcells hslots hdg (fun q H1 a1 a2 a3 => kk q H1 ⟨a1, a2, a3⟩)
theorem r_newa (C : Cx p s m args c G tys A own cc Ts nL) (h : Hx s G A w H locs) (t0 : Nat) {cA : ClassId} {atype : ArrayType} {ty : FieldType} (ht : tys[t0]? = some (cA, ty)) (harr : Cond.arrayClass (newarray.typeOf atype) ∈ Ts) (hty : newarray.typeOf atype = ty) {n : Int32} {N' : Nat} (a0 : vp_A) (ha : ∀ cA : ClassId, vp_cell cA a0 = arrV cA N' (fun _ => defaultValue ty)) (hn : ¬ n < 0) (hN : n.toNatClampNeg = N') (hbytes : N' * componentBytes ty ≤ 536870912) (hcells : cells + 1 ≤ R.cells) (hslots : slots + N' ≤ R.slots) (hdg : decode cc pc = .ok (.newarray atype, 2))
    (kk : ∀ (q : Nat) (H1 : Heap), Hx s G A (w ++ [(q, .inl (cA, a0))]) H1 locs → W p l e R s m args below meth c H1 locs (cells + 1) (slots + N') Q (F0 m (pc + 2) ls (.ref q :: rest))) : W p l e R s m args below meth c H locs cells slots Q (F0 m pc ls (.int n :: rest)) := by
  refine va_newa C.hx C.hb (C.hts _ harr) hty C.hK h.1 h.2.1 h.2.2 C.hA ha hn hN hbytes hcells hslots hdg (fun q cB H1 k1 a1 a2 a3 => ?_)
  have e1 : cB = cA := va_RA.inj (k1.2 tys.length (cB, ty) (by simp)).2 (C.hK.2 t0 _ ht).2
  subst e1
  exact kk q H1 ⟨a1, a2, a3⟩
abbrev qA (cQ : ClassId) (n : Nat) (f : Nat → Option Nat) : va_E := .inl (cQ, n, .inr (.inr (.inr (.inr f))))
theorem r_newq (C : Cx p s m args c G tys A own cc Ts nL) (h : Hx s G A w H locs) (t0 : Nat) {cA : ClassId} (ht : tys[t0]? = some (cA, .object RX2)) {index : Nat} (hcl : Cond.classLink own index RX2 ∈ Ts) {n : Int32} {N' : Nat} (hn : ¬ n < 0) (hN : n.toNatClampNeg = N') (hbytes : N' * 4 ≤ 536870912) (hcells : cells + 1 ≤ R.cells) (hslots : slots + N' ≤ R.slots) (hdg : decode cc pc = .ok (.anewarray index, 3))
    (kk : ∀ (q : Nat) (H1 : Heap), Hx s G A (w ++ [(q, qA cA N' (fun _ => none))]) H1 locs → W p l e R s m args below meth c H1 locs (cells + 1) (slots + N') Q (F0 m (pc + 3) ls (.ref q :: rest))) : W p l e R s m args below meth c H locs cells slots Q (F0 m pc ls (.int n :: rest)) := by
  refine va_newq C.hx C.hb C.hown (C.hts _ hcl) C.nw.2.2 C.hK h.1 h.2.1 h.2.2 C.hA hn hN hbytes hcells hslots hdg (fun q cB H1 k1 a1 a2 a3 => ?_)
  have e1 : cB = cA := va_RA.inj (k1.2 tys.length (cB, .object RX2) (by simp)).2 (C.hK.2 t0 _ ht).2
  subst e1
  exact kk q H1 ⟨a1, a2, a3⟩
theorem r_aldq (C : Cx p s m args c G tys A own cc Ts nL) (h : Hx s G A w H locs) (q0 t0 : Nat) {cA : ClassId} {n j : Nat} {f : Nat → Option Nat} (he : w[q0]? = some (a, qA cA n f)) (ht : tys[t0]? = some (cA, .object RX2)) {i : Int32} (hij : vp_in i n ∧ i.toNatClampNeg = j) (hdg : decode cc pc = .ok (.aaload, 1))
    (kk : W p l e R s m args below meth c H locs cells slots Q (F0 m (pc + 1) ls (va_rf (f j) :: rest))) : W p l e R s m args below meth c H locs cells slots Q (F0 m pc ls (.int i :: .ref a :: rest)) := by
  obtain ⟨hi, rfl⟩ := hij
  exact va_aldq C.hx C.hb C.hK h.1 q0 t0 he ht hi hdg kk
theorem r_astq (C : Cx p s m args c G tys A own cc Ts nL) (h : Hx s G A w H locs) (q0 t0 qk : Nat) {cA : ClassId} {n j v : Nat} {f : Nat → Option Nat} {vs : List Value} (he : w[q0]? = some (a, qA cA n f)) (ht : tys[t0]? = some (cA, .object RX2)) (hv : w[qk]? = some (v, .inr (2, vs))) {i : Int32} (hij : vp_in i n ∧ i.toNatClampNeg = j) (hdg : decode cc pc = .ok (.aastore, 1))
    (kk : ∀ (H1 : Heap) (locs1 : List Loc), Hx s G A (w.set q0 (a, qA cA n (va_up f j (some v)))) H1 locs1 → W p l e R s m args below meth c H1 locs1 cells slots Q (F0 m (pc + 1) ls rest)) : W p l e R s m args below meth c H locs cells slots Q (F0 m pc ls (.ref v :: .int i :: .ref a :: rest)) := by
  obtain ⟨hi, rfl⟩ := hij
  exact va_astq (r := (RX2, TX2, 6)) C.hx C.hb C.hK h.1 h.2.1 h.2.2 q0 t0 qk 2 he ht hv rfl hi hdg (fun H1 locs1 a1 a2 a3 => kk H1 locs1 ⟨a1, a2, a3⟩)
theorem r_alenq (C : Cx p s m args c G tys A own cc Ts nL) (h : Hx s G A w H locs) (q0 t0 : Nat) {cA : ClassId} {n : Nat} {f : Nat → Option Nat} (he : w[q0]? = some (a, qA cA n f)) (ht : tys[t0]? = some (cA, .object RX2)) (hdg : decode cc pc = .ok (.arraylength, 1))
    (kk : W p l e R s m args below meth c H locs cells slots Q (F0 m (pc + 1) ls (.int (nI n) :: rest))) : W p l e R s m args below meth c H locs cells slots Q (F0 m pc ls (.ref a :: rest)) :=
  va_alen C.hx C.hb C.hK h.1 q0 t0 he ht rfl hdg kk
theorem r_obj (C : Cx p s m args c G tys A own cc Ts nL) (hls : ls.size = nL) {index : Nat} (h1 : Cond.methodLink own index objectInit ∈ Ts) (h2 : Cond.instanceMethod objectInit ∈ Ts) (h3 : Cond.code objectInit ⟨#[0xb1]⟩ 1 none ∈ Ts) (hframes : 1 ≤ R.frames) (hlocals : (rest.map fun v => v.category).sum + 12 ≤ R.locals) (hdg : decode cc pc = .ok (.invokespecial index, 3))
    (kk : W p l e R s m args below meth c H locs cells slots Q (F0 m (pc + 3) ls rest)) : W p l e R s m args below meth c H locs cells slots Q (F0 m pc ls (.ref a :: rest)) :=
  W.objInit C.hx C.hb C.hown (C.hts _ h1) (C.hts _ h2) (C.hts _ h3) rfl (by rw [C.hml]; exact hls) rfl hdg hframes (by show 2 * 0 + (rest.map fun v => v.category).sum + 12 ≤ R.locals; omega) kk
theorem y_aret (C : Cx p s m args c G tys A own cc Ts nL) (h : Hx s G A w H locs) {o : Option Nat} {rt : FieldType} (hp : post (some (va_rf o)) w) (hr : meth.sig.returnType = some rt) (hrt : (∃ n, rt = .object n) ∨ ∃ t, rt = .array t) (hlocks : meth.locks = false) (hdg : decode cc pc = .ok (.areturn, 1)) : W p l e R s m args below meth c H locs cells slots (MQ below (Qy G post A) args s cells slots A) (F0 m pc ls [va_rf o]) :=
  W.aret (v := va_rf o) C.hx C.hb hr hrt (by cases o with | none => exact Or.inl rfl | some a => exact Or.inr ⟨a, rfl⟩) (fun t ht hW => ⟨⟨_, w, rfl, hp, by rw [ht]; exact h.1, h.2.1⟩, h.2.2.F ht⟩) h.2.2.2.2 hdg hlocks
theorem y_lret (C : Cx p s m args c G tys A own cc Ts nL) (h : Hx s G A w H locs) {v : Int64} (hp : post (some (.long v)) w) (hr : meth.sig.returnType = some .long) (hlocks : meth.locks = false) (hdg : decode cc pc = .ok (.lreturn, 1)) : W p l e R s m args below meth c H locs cells slots (MQ below (Qy G post A) args s cells slots A) (F0 m pc ls [.long v]) :=
  W.lret (v := v) C.hx C.hb hr (fun t ht hW => ⟨⟨_, w, rfl, hp, by rw [ht]; exact h.1, h.2.1⟩, h.2.2.F ht⟩) h.2.2.2.2 hdg hlocks
end RowsM
def catW {α : Type} : List (List α) → List α
  | [] => []
  | [x] => x
  | x :: y :: t => x ++ catW (y :: t)
theorem catW_eq {α : Type} : ∀ ss : List (List α), catW ss = ss.flatten
  | [] => rfl
  | [x] => by simp [catW]
  | x :: y :: t => by
    have ih := catW_eq (y :: t)
    show x ++ catW (y :: t) = x ++ (y :: t).flatten
    rw [ih]
theorem perm_2 {α : Type} (n : Nat) (ss : List (List α)) (i1 i2 : List Nat) (hn : ss.length = n) (h : (List.range n).Perm (i1 ++ i2)) : (catW ss).Perm (catW (i1.map (fun i => ss.getD i [])) ++ catW (i2.map (fun i => ss.getD i []))) := by
  have e := perm_pl ss (i1 ++ i2) (by rw [hn]; exact h)
  rw [List.map_append, List.flatten_append] at e
  rw [catW_eq, catW_eq, catW_eq]
  exact e
/-- the cells of a state, its addresses in one function, its contents in one tuple -/
abbrev wS (cI : ClassId) (α : Nat → Nat) (S : T6) : va_W := wSt cI (α 0) (α 1) (α 2) (α 3) (α 4) (α 5) (α 6) (α 7) (α 8) S.1 S.2.1 S.2.2.1 S.2.2.2.1 S.2.2.2.2.1 S.2.2.2.2.2
/-- a place of a row of states: nothing, or a state -/
def SLt (cI : ClassId) (o : Option Nat) (S : Option T6) (w : va_W) : Prop := match o, S with
  | none, none => w = []
  | some a, some Y => ∃ α : Nat → Nat, α 0 = a ∧ w = wS cI α Y
  | _, _ => False
def RGs (cI : ClassId) (f : Nat → Option Nat) (C : Nat → Option T6) : Nat → va_W → Prop
  | 0, w => w = []
  | n + 1, w => ∃ w1 w2, RGs cI f C n w1 ∧ SLt cI (f n) (C n) w2 ∧ w = w1 ++ w2
theorem RGs.ext {cI : ClassId} {f f' : Nat → Option Nat} {C C' : Nat → Option T6} : ∀ (n : Nat) (w : va_W), RGs cI f C n w → (∀ i, i < n → f' i = f i) → (∀ i, i < n → C' i = C i) → RGs cI f' C' n w
  | 0, _, h, _, _ => h
  | n + 1, w, h, hf, hC => by
    obtain ⟨w1, w2, h1, h2, h3⟩ := h
    refine ⟨w1, w2, RGs.ext n w1 h1 (fun i hi => hf i (by omega)) (fun i hi => hC i (by omega)), ?_, h3⟩
    rw [hf n (by omega), hC n (by omega)]
    exact h2
theorem rg_nil (cI : ClassId) : ∀ n : Nat, RGs cI (fun _ => none) (fun _ => none) n []
  | 0 => rfl
  | n + 1 => ⟨[], [], rg_nil cI n, rfl, rfl⟩
theorem RGs.take {cI : ClassId} {f : Nat → Option Nat} {C : Nat → Option T6} : ∀ (n : Nat) (w : va_W) (i : Nat), i < n → RGs cI f C n w → ∃ wr wi, SLt cI (f i) (C i) wi ∧ w.Perm (wr ++ wi) ∧ ∀ (f' : Nat → Option Nat) (C' : Nat → Option T6) (wi' : va_W), (∀ j, j ≠ i → f' j = f j) → (∀ j, j ≠ i → C' j = C j) → SLt cI (f' i) (C' i) wi' → ∃ w', RGs cI f' C' n w' ∧ w'.Perm (wr ++ wi')
  | 0, _, i, hi, _ => by omega
  | n + 1, w, i, hi, h => by
    obtain ⟨w1, w2, h1, h2, h3⟩ := h
    by_cases g : i = n
    · refine ⟨w1, w2, by rw [g]; exact h2, by rw [h3], fun f' C' wi' hf hC hs => ⟨w1 ++ wi', ⟨w1, wi', RGs.ext n w1 h1 (fun j hj => hf j (by omega)) (fun j hj => hC j (by omega)), by rw [← g]; exact hs, rfl⟩, List.Perm.refl _⟩⟩
    · obtain ⟨wr, wi, a1, a2, a3⟩ := RGs.take n w1 i (by omega) h1
      have sw : ∀ x : va_W, ((wr ++ x) ++ w2).Perm ((wr ++ w2) ++ x) := by
        intro x
        rw [List.append_assoc, List.append_assoc]
        exact List.perm_append_comm.append_left wr
      refine ⟨wr ++ w2, wi, a1, ?_, fun f' C' wi' hf hC hs => ?_⟩
      · rw [h3]
        exact (a2.append_right w2).trans (sw wi)
      · obtain ⟨w', b1, b2⟩ := a3 f' C' wi' hf hC hs
        refine ⟨w' ++ w2, ⟨w', w2, b1, ?_, rfl⟩, (b2.append_right w2).trans (sw wi')⟩
        rw [hf n (Ne.symm g), hC n (Ne.symm g)]
        exact h2
/-- Y is a copy of S (over whatever was there) -/
def CP (S Y : T6) : Prop := ∃ X : T6, fX2_copyFrom X.1 X.2.1 X.2.2.1 X.2.2.2.1 X.2.2.2.2.1 X.2.2.2.2.2 S.1 S.2.1 S.2.2.1 S.2.2.2.1 S.2.2.2.2.1 S.2.2.2.2.2 = some Y
theorem copy_any (X S : T6) : ∃ Y : T6, fX2_copyFrom X.1 X.2.1 X.2.2.1 X.2.2.2.1 X.2.2.2.2.1 X.2.2.2.2.2 S.1 S.2.1 S.2.2.1 S.2.2.2.1 S.2.2.2.2.1 S.2.2.2.2.2 = some Y := by
  obtain ⟨x1, x2, x3, x4, x5, x6⟩ := X
  obtain ⟨s1, s2, s3, s4, s5, s6⟩ := S
  obtain ⟨a1, rfl, -⟩ := fI_of x1
  obtain ⟨a2, rfl, -⟩ := fI_of x2
  obtain ⟨a3, rfl, -⟩ := fI_of x3
  obtain ⟨a4, rfl, -⟩ := fI_of x4
  obtain ⟨a5, rfl, -⟩ := fI_of x5
  obtain ⟨b1, rfl, -⟩ := fI_of s1
  obtain ⟨b2, rfl, -⟩ := fI_of s2
  obtain ⟨b3, rfl, -⟩ := fI_of s3
  obtain ⟨b4, rfl, -⟩ := fI_of s4
  obtain ⟨b5, rfl, -⟩ := fI_of s5
  obtain ⟨n, rfl, -⟩ := nI_ex s6
  obtain ⟨k, rfl, -⟩ := nI_ex x6
  exact ⟨_, copy_ev b1 b2 b3 b4 b5 a1 a2 a3 a4 a5 (nI k) (nI n)⟩
theorem SS.cp {B : Nat} {S Y : T6} {z z' : Nat → Nat} (h : SS B S z) (hc : CP S Y) (hz : ∀ j, j < 234 → z' j = z j) (hb : ∀ k, z' k < 4294967296) : SS B Y z' := by
  obtain ⟨X, hX⟩ := hc
  obtain ⟨Y', h1, h2⟩ := h.copied X hz hb
  rw [hX] at h1
  cases h1
  exact h2
