/-! ===== worlds whose cells are not counted beforehand; methods that make cells ===== -/
theorem va_P_mem {D : va_G} {cl : List vw_C} {ws : va_W} {H : Heap} : va_P D cl ws H ↔ ∀ q ∈ ws, va_at D cl q H := by
  constructor
  · intro h q hq
    obtain ⟨k, hk⟩ := List.getElem?_of_mem hq
    exact h k q hk
  · intro h k q hk
    exact h q (List.mem_of_getElem? hk)
theorem va_D_mem {A : Nat → Prop} {ws : va_W} : va_D A ws ↔ (ws.map Prod.fst).Nodup ∧ ∀ q ∈ ws, A q.1 := by
  constructor
  · intro h
    refine ⟨?_, fun q hq => ?_⟩
    · unfold List.Nodup
      rw [List.pairwise_iff_getElem]
      intro i j hi hj hij he
      simp only [List.length_map] at hi hj
      simp only [List.getElem_map] at he
      have := h.1 i j _ _ (List.getElem?_eq_getElem hi) (List.getElem?_eq_getElem hj) he
      omega
    · obtain ⟨k, hk⟩ := List.getElem?_of_mem hq
      exact h.2 k q hk
  · intro h
    refine ⟨fun i j x y hi hj hxy => ?_, fun k q hk => h.2 q (List.mem_of_getElem? hk)⟩
    obtain ⟨hn, -⟩ := h
    unfold List.Nodup at hn
    rw [List.pairwise_iff_getElem] at hn
    obtain ⟨li, ei⟩ := List.getElem?_eq_some_iff.mp hi
    obtain ⟨lj, ej⟩ := List.getElem?_eq_some_iff.mp hj
    rcases Nat.lt_trichotomy i j with g | g | g
    · exact (hn i j (by simpa using li) (by simpa using lj) g (by simp only [List.getElem_map, ei, ej]; exact hxy)).elim
    · exact g
    · exact (hn j i (by simpa using lj) (by simpa using li) g (by simp only [List.getElem_map, ei, ej]; exact hxy.symm)).elim
theorem Hx.perm {s : State} {G : va_G} {A : Nat → Prop} {w w2 : va_W} {H : Heap} {locs : List Loc} (h : Hx s G A w H locs) (hp : w.Perm w2) : Hx s G A w2 H locs := by
  obtain ⟨h1, h2, h3⟩ := h
  rw [va_P_mem] at h1
  rw [va_D_mem] at h2
  refine ⟨va_P_mem.mpr fun q hq => h1 q (hp.mem_iff.mpr hq), va_D_mem.mpr ⟨(hp.map Prod.fst).nodup_iff.mp h2.1, fun q hq => h2.2 q (hp.mem_iff.mpr hq)⟩, h3⟩
/-- a list by its places, in any order -/
theorem perm_pl {α : Type} (ss : List (List α)) (is : List Nat) (h : (List.range ss.length).Perm is) : ss.flatten.Perm (is.map (fun i => ss.getD i [])).flatten := by
  have e : ss = (List.range ss.length).map (fun i => ss.getD i []) := by
    apply List.ext_getElem?
    intro j
    by_cases hj : j < ss.length
    · rw [List.getElem?_map, List.getElem?_range hj, List.getElem?_eq_getElem hj]
      simp [List.getD, hj]
    · rw [List.getElem?_eq_none (by omega), List.getElem?_eq_none (by simp; omega)]
  have h2 : ss.Perm (is.map (fun i => ss.getD i [])) := by
    have h3 := h.map (fun i => ss.getD i [])
    rw [← e] at h3
    exact h3
  exact h2.flatten
def Qy (G : va_G) (post : Option Value → va_W → Prop) (A : Nat → Prop) : Array Value → State → Outcome → State → Prop := fun _ st oc t => (∃ (res : Option Value) (w' : va_W), oc = .returned res ∧ post res w' ∧ va_P G vwCl w' t.heap ∧ va_D A w') ∧ va_F A st t
def CY (l : Launch) (y : MethodName) (ws : List Cond) (rm : Room) (G : va_G) (tys : List (ClassId × FieldType)) (av : List Value) (w : va_W) (post : Option Value → va_W → Prop) (mc ms : Nat) : Prop := ∀ sz : Nat, Met l y ws rm (va_Pc av (Pre G tys w sz)) (Qy G post (va_A w sz)) mc ms (va_A w sz)
theorem Met.mono {l : Launch} {y : MethodName} {ws : List Cond} {rm : Room} {Pc : Array Value → State → Prop} {Qc Qc' : Array Value → State → Outcome → State → Prop} {mc ms : Nat} {free : Addr → Prop} (h : Met l y ws rm Pc Qc mc ms free) (hq : ∀ a st o t, Qc a st o t → Qc' a st o t) : Met l y ws rm Pc Qc' mc ms free := by
  intro p e ha hc hk s m args below hf happ hP hK
  obtain ⟨n, o, h1, h2, h3, h4, h5⟩ := h p e ha hc hk s m args below hf happ hP hK
  exact ⟨n, o, h1, h2, h3, hq _ _ _ _ h4, h5⟩
theorem CT.toY {l : Launch} {y : MethodName} {ws : List Cond} {rm : Room} {G : va_G} {tys : List (ClassId × FieldType)} {av : List Value} {w w' : va_W} {res : Option Value} (h : CT l y ws rm G tys av w res w') : CY l y ws rm G tys av w (fun r v => r = res ∧ v = w') 0 0 := fun sz => (h sz).mono fun a st o t hq => ⟨⟨res, w', hq.1.1, ⟨rfl, rfl⟩, hq.1.2.1, hq.1.2.2⟩, hq.2⟩
theorem CY.mono {l : Launch} {y : MethodName} {ws : List Cond} {rm : Room} {G : va_G} {tys : List (ClassId × FieldType)} {av : List Value} {w : va_W} {post post' : Option Value → va_W → Prop} {mc ms : Nat} (h : CY l y ws rm G tys av w post mc ms) (hq : ∀ r v, post r v → post' r v) : CY l y ws rm G tys av w post' mc ms := fun sz => (h sz).mono fun a st o t h1 => by
  obtain ⟨⟨res, w', a1, a2, a3⟩, b⟩ := h1
  exact ⟨⟨res, w', a1, hq _ _ a2, a3⟩, b⟩
section RowsY
variable {p : Program} {l : Launch} {e : Env} {R : Room} {s : State} {m : MethodId} {args : Array Value} {below : List Frame} {meth : Method} {c : Code} {H : Heap} {locs : List Loc} {cells slots : Nat} {Q : State → Prop}
variable {cc : ByteArray} {pc : Nat} {ls : Array Slot} {rest st0 st1 : List Value} {G : va_G} {tys : List (ClassId × FieldType)} {A : Nat → Prop} {own : String} {Ts : List Cond} {nL : Nat} {w wr wc : va_W} {a mc ms : Nat} {post : Option Value → va_W → Prop}
theorem r_preY (C : Cx p s m args c G tys A own cc Ts nL) (h : Hx s G A (wr ++ wc) H locs) {av : List Value} : PreS s H (va_Pc av (Pre G tys wc H.size)) av := by
  obtain ⟨h1, h2, h3⟩ := h
  rw [va_P_mem] at h1
  rw [va_D_mem] at h2
  have hF : ∀ q, va_A wc H.size q → A q := by
    intro q hq
    rcases hq with ⟨k, e, hq⟩ | hq
    · exact h2.2 (q, e) (List.mem_append_right _ (List.mem_of_getElem? hq))
    · exact C.hA q (Nat.le_trans h3.1 hq)
  refine ⟨Pre.blind, fun U hU hW => ⟨rfl, by rw [hU], by rw [hU]; exact va_P_mem.mpr fun q hq => h1 q (List.mem_append_right _ hq), va_K.moved hW.alike C.hK, va_D_mem.mpr ⟨?_, fun _ _ => trivial⟩, ?_, NW.warm hW C.nw⟩⟩
  · have := h2.1
    rw [List.map_append] at this
    exact (List.nodup_append.mp this).2.1
  · rw [hU]
    exact (C.sf.kept h3.2.1 hF).moved hW.alike
theorem r_backY (C : Cx p s m args c G tys A own cc Ts nL) (h : Hx s G A (wr ++ wc) H locs) {av : Array Value}
    (hr : va_Run p l e R s m args below meth c H locs cells slots mc ms (F0 m pc ls st0) rest (Qy G post (va_A wc H.size) av) (va_A wc H.size))
    (kk : ∀ (res : Option Value) (w1 : va_W) (H1 : Heap) (locs1 : List Loc), post res w1 → Hx s G A (wr ++ w1) H1 locs1 → W p l e R s m args below meth c H1 locs1 (cells + mc) (slots + ms) Q (F0 m (pc + 3) ls (res.toList ++ rest))) : W p l e R s m args below meth c H locs cells slots Q (F0 m pc ls st0) := by
  obtain ⟨h1, h2, h3⟩ := h
  rw [va_P_mem] at h1
  rw [va_D_mem] at h2
  obtain ⟨n0, hA0⟩ := h2
  rw [List.map_append, List.nodup_append] at n0
  obtain ⟨n1, n2, n3⟩ := n0
  have hF : ∀ q, va_A wc H.size q → A q := by
    intro q hq
    rcases hq with ⟨k, e, hq⟩ | hq
    · exact hA0 (q, e) (List.mem_append_right _ (List.mem_of_getElem? hq))
    · exact C.hA q (Nat.le_trans h3.1 hq)
  have hR : ∀ q ∈ wr, q.1 < H.size ∧ ¬ va_A wc H.size q.1 := by
    intro q hq
    have hl := (h1 q (List.mem_append_left _ hq)).lt
    refine ⟨hl, fun z => ?_⟩
    rcases z with ⟨k, e, z⟩ | z
    · exact n3 q.1 (List.mem_map.mpr ⟨q, hq, rfl⟩) q.1 (List.mem_map.mpr ⟨(q.1, e), List.mem_of_getElem? z, rfl⟩) rfl
    · omega
  intro T hT X
  obtain ⟨v, st₀, t, T', L, h0, X', hL, e1, e2, ⟨⟨res, w1, hv, hpo, hp, hd⟩, hz, hk⟩, st⟩ := hr T hT X
  cases hv
  rw [h0] at hz hk
  rw [← e1] at hp hz hk
  rw [va_P_mem] at hp
  rw [va_D_mem] at hd
  have hH : Hx s G A (wr ++ w1) T'.heap (locs ++ L) := by
    refine ⟨?_, ?_, ?_⟩
    · refine va_P_mem.mpr fun q hq => ?_
      rcases List.mem_append.mp hq with g | g
      · exact (h1 q (List.mem_append_left _ g)).kept (hk q.1 (hR q g).1 (hR q g).2)
      · exact hp q g
    · refine va_D_mem.mpr ⟨?_, fun q hq => ?_⟩
      · rw [List.map_append, List.nodup_append]
        refine ⟨n1, hd.1, fun x hx y hy e => ?_⟩
        obtain ⟨q1, g1, rfl⟩ := List.mem_map.mp hx
        obtain ⟨q2, g2, rfl⟩ := List.mem_map.mp hy
        exact (hR q1 g1).2 (by rw [e]; exact hd.2 q2 g2)
      · rcases List.mem_append.mp hq with g | g
        · exact hA0 q (List.mem_append_left _ g)
        · exact hF _ (hd.2 q g)
    · exact ⟨Nat.le_trans h3.1 hz, fun q g1 g2 => by rw [hk q (Nat.lt_of_lt_of_le g1 h3.1) (fun z => g2 (hF q z))]; exact h3.2.1 q g1 g2, fun q hq => by
        rcases List.mem_append.mp hq with g | g
        · exact h3.2.2 q g
        · exact hF _ (hL q g)⟩
  obtain ⟨t2, a1, b1⟩ := kk v w1 T'.heap (locs ++ L) hpo hH T' rfl X'
  exact ⟨t2, st t2 a1, b1⟩
theorem r_callVY (C : Cx p s m args c G tys A own cc Ts nL) (h : Hx s G A (wr ++ wc) H locs) {y : MethodName} {bytes : ByteArray} {maxL n index ci : Nat} {ret : Option FieldType} {wsy : List Cond} {rmy : Room} {Cn : String} {T : u_T} {N b : Nat} {fs As : List Value}
    (cw : CallW R s args own Cn index y bytes maxL ret wsy rmy mc ms n) (ct : CY l y wsy rmy G tys (.ref b :: As) wc post mc ms) (hrc : vwCl[ci]? = some (Cn, T, N)) (hq0 : (b, .inr (ci, fs)) ∈ wr ++ wc)
    (hlen : As.length = n) (hls : ls.size = nL) (hst0 : st0 = As.reverse ++ .ref b :: rest) (hroom : (rest.map fun v => v.category).sum ≤ 8) (hf : cells + mc ≤ R.cells ∧ slots + ms ≤ R.slots) (hdg : decode cc pc = .ok (.invokevirtual index, 3))
    (kk : ∀ (res : Option Value) (w1 : va_W) (H1 : Heap) (locs1 : List Loc), post res w1 → Hx s G A (wr ++ w1) H1 locs1 → W p l e R s m args below meth c H1 locs1 (cells + mc) (slots + ms) Q (F0 m (pc + 3) ls (res.toList ++ rest))) : W p l e R s m args below meth c H locs cells slots Q (F0 m pc ls st0) := by
  have hp := r_preY (av := .ref b :: As) C h
  obtain ⟨q0, hq0⟩ := List.getElem?_of_mem hq0
  exact r_backY C h (va_runV C.fix (ct H.size) cw ⟨hp.1, va_recv C.hK h.1 hrc hq0, hp.2⟩ rfl hlen hls hst0 (lv_room hroom) hdg hf) kk
theorem r_callSY (C : Cx p s m args c G tys A own cc Ts nL) (h : Hx s G A (wr ++ wc) H locs) {y : MethodName} {bytes : ByteArray} {maxL n index : Nat} {ret : Option FieldType} {wsy : List Cond} {rmy : Room} {As : List Value}
    (cw : CallB R s args own index y bytes maxL ret wsy rmy mc ms n ∧ (Cond.static y).before args s = true) (ct : CY l y wsy rmy G tys As wc post mc ms)
    (hlen : As.length = n) (hls : ls.size = nL) (hst0 : st0 = As.reverse ++ rest) (hroom : (rest.map fun v => v.category).sum ≤ 8) (hf : cells + mc ≤ R.cells ∧ slots + ms ≤ R.slots) (hdg : decode cc pc = .ok (.invokestatic index, 3))
    (kk : ∀ (res : Option Value) (w1 : va_W) (H1 : Heap) (locs1 : List Loc), post res w1 → Hx s G A (wr ++ w1) H1 locs1 → W p l e R s m args below meth c H1 locs1 (cells + mc) (slots + ms) Q (F0 m (pc + 3) ls (res.toList ++ rest))) : W p l e R s m args below meth c H locs cells slots Q (F0 m pc ls st0) :=
  r_backY C h (va_runS C.fix (ct H.size) cw (r_preY C h) rfl hlen hls hst0 (lv_room hroom) hdg hf) kk
theorem r_callSNY (C : Cx p s m args c G tys A own cc Ts nL) (h : Hx s G A (wr ++ wc) H locs) {y : MethodName} {bytes : ByteArray} {maxL n index : Nat} {ret : Option FieldType} {wsy : List Cond} {rmy : Room} {As : List Value} {host : String}
    (cw : va_CN R s args own index y host bytes maxL ret wsy rmy mc ms n ∧ (Cond.static y).before args s = true ∧ True) (ct : CY l y wsy rmy G tys As wc post mc ms)
    (hlen : As.length = n) (hls : ls.size = nL) (hst0 : st0 = As.reverse ++ rest) (hroom : (rest.map fun v => v.category).sum ≤ 8) (hf : cells + mc ≤ R.cells ∧ slots + ms ≤ R.slots) (hdg : decode cc pc = .ok (.invokestatic index, 3))
    (kk : ∀ (res : Option Value) (w1 : va_W) (H1 : Heap) (locs1 : List Loc), post res w1 → Hx s G A (wr ++ w1) H1 locs1 → W p l e R s m args below meth c H1 locs1 (cells + mc) (slots + ms) Q (F0 m (pc + 3) ls (res.toList ++ rest))) : W p l e R s m args below meth c H locs cells slots Q (F0 m pc ls st0) :=
  r_backY C h (va_runSN C.fix (ct H.size) cw (r_preY C h) rfl hlen hls hst0 (lv_room hroom) hdg hf) kk
theorem r_callIY (C : Cx p s m args c G tys A own cc Ts nL) (h : Hx s G A (wr ++ wc) H locs) {y : MethodName} {bytes : ByteArray} {maxL n index b : Nat} {wsy : List Cond} {rmy : Room} {As : List Value}
    (cw : CallB R s args own index y bytes maxL none wsy rmy mc ms n ∧ y.name = "<init>" ∧ (Cond.instanceMethod y).before args s = true) (ct : CY l y wsy rmy G tys (.ref b :: As) wc post mc ms)
    (hlen : As.length = n) (hls : ls.size = nL) (hst0 : st0 = As.reverse ++ .ref b :: rest) (hroom : (rest.map fun v => v.category).sum ≤ 8) (hf : cells + mc ≤ R.cells ∧ slots + ms ≤ R.slots) (hdg : decode cc pc = .ok (.invokespecial index, 3))
    (kk : ∀ (res : Option Value) (w1 : va_W) (H1 : Heap) (locs1 : List Loc), post res w1 → Hx s G A (wr ++ w1) H1 locs1 → W p l e R s m args below meth c H1 locs1 (cells + mc) (slots + ms) Q (F0 m (pc + 3) ls (res.toList ++ rest))) : W p l e R s m args below meth c H locs cells slots Q (F0 m pc ls st0) :=
  r_backY C h (va_runI C.fix (ct H.size) cw (r_preY (av := .ref b :: As) C h) rfl hlen hls hst0 (lv_room hroom) hdg hf) kk
theorem r_callINY (C : Cx p s m args c G tys A own cc Ts nL) (h : Hx s G A (wr ++ wc) H locs) {y : MethodName} {bytes : ByteArray} {maxL n index b : Nat} {wsy : List Cond} {rmy : Room} {As : List Value} {host : String}
    (cw : va_CN R s args own index y host bytes maxL none wsy rmy mc ms n ∧ y.name = "<init>" ∧ (Cond.instanceMethod y).before args s = true) (ct : CY l y wsy rmy G tys (.ref b :: As) wc post mc ms)
    (hlen : As.length = n) (hls : ls.size = nL) (hst0 : st0 = As.reverse ++ .ref b :: rest) (hroom : (rest.map fun v => v.category).sum ≤ 8) (hf : cells + mc ≤ R.cells ∧ slots + ms ≤ R.slots) (hdg : decode cc pc = .ok (.invokespecial index, 3))
    (kk : ∀ (res : Option Value) (w1 : va_W) (H1 : Heap) (locs1 : List Loc), post res w1 → Hx s G A (wr ++ w1) H1 locs1 → W p l e R s m args below meth c H1 locs1 (cells + mc) (slots + ms) Q (F0 m (pc + 3) ls (res.toList ++ rest))) : W p l e R s m args below meth c H locs cells slots Q (F0 m pc ls st0) :=
  r_backY C h (va_runIN C.fix (ct H.size) cw (r_preY (av := .ref b :: As) C h) rfl hlen hls hst0 (lv_room hroom) hdg hf) kk
-- ends
theorem y_vret (C : Cx p s m args c G tys A own cc Ts nL) (h : Hx s G A w H locs) (hp : post none w) (hr : meth.sig.returnType = none) (hlocks : meth.locks = false) (hdg : decode cc pc = .ok (.return_, 1)) : W p l e R s m args below meth c H locs cells slots (MQ below (Qy G post A) args s cells slots A) (F0 m pc ls []) :=
  W.vret C.hx C.hb hr (fun t ht hW => ⟨⟨none, w, rfl, hp, by rw [ht]; exact h.1, h.2.1⟩, h.2.2.F ht⟩) h.2.2.2.2 hdg hlocks
theorem y_iret (C : Cx p s m args c G tys A own cc Ts nL) (h : Hx s G A w H locs) {v : Int32} (hp : post (some (.int v)) w) (hr : meth.sig.returnType = some .int) (hlocks : meth.locks = false) (hdg : decode cc pc = .ok (.ireturn, 1)) : W p l e R s m args below meth c H locs cells slots (MQ below (Qy G post A) args s cells slots A) (F0 m pc ls [.int v]) :=
  W.iret (v := v) C.hx C.hb hr (fun t ht hW => ⟨⟨_, w, rfl, hp, by rw [ht]; exact h.1, h.2.1⟩, h.2.2.F ht⟩) h.2.2.2.2 hdg hlocks
end RowsY
theorem CY.of {l : Launch} {y : MethodName} {ws ws' : List Cond} {rm : Room} {G : va_G} {tys : List (ClassId × FieldType)} {av : List Value} {w : va_W} {post : Option Value → va_W → Prop} {mc ms : Nat} {cc : ByteArray} {maxL : Nat} {ret : Option FieldType} (own : String) (ho : y.cls = own) (hy : plainName y.cls = true) (hw : ws = Cond.code y cc maxL ret :: ws') (hlen : (lg_sl av).length ≤ maxL)
    (body : ∀ (p : Program) (e : Env) (s : State) (m : MethodId) (args : Array Value) (below : List Frame) (meth : Method) (c : Code) (A : Nat → Prop) (ls : Array Slot), Cx p s m args c G tys A own cc ws maxL → meth.sig.returnType = ret → meth.locks = false → meth.name = y.name → Hx s G A w s.heap [] → lv_has ls maxL (lv_args 0 av) → W p l e rm s m args below meth c s.heap [] 0 0 (MQ below (Qy G post A) args s mc ms A) (F0 m 0 ls [])) : CY l y ws rm G tys av w post mc ms := by
  subst ho
  intro sz
  refine Met.ofW (cc := cc) (maxL := maxL) (ret := ret) hy hw ?_
  intro p e s m args below meth c s₁ B hml hv
  obtain ⟨rfl, hsz, hP, hK, hD0, hSF, hNW⟩ := hv
  have hts := atoms_spec (ws := ws) B.pre
  have hown : s.vm.findClass y.cls = some m.cls := findClass_of_methodNamed B.named
  subst hsz
  have hl := lv_entry av (n := maxL) hlen
  rw [lg_entry_eq]
  exact body p e s m _ below meth c _ _ ⟨B.exec, B.bytes, hml, hown, hts, hK, hNW, fun q hq => Or.inr hq, hSF⟩ B.returns B.notSynchronized (name_of_methodNamed B.named B.method).1 ⟨hP, hD0.self, va_S.rf⟩ hl
