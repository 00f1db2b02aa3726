/-! ===== methods of the law that read the script ===== -/
def PreX (G : va_G) (tys : List (ClassId × FieldType)) (w : va_W) (sz b L : Nat) (xs : Nat → Int32) : State → Prop := fun U => Pre G tys w sz U ∧ va_X b L xs U U.heap ∧ b < sz ∧ ¬ va_A w sz b
theorem PreX.blind {G : va_G} {tys : List (ClassId × FieldType)} {w : va_W} {sz b L : Nat} {xs : Nat → Int32} {av : List Value} : FrameBlind (va_Pc av (PreX G tys w sz b L xs)) := by
  intro a U g mk q
  obtain ⟨q0, q1, q2, q3, q4⟩ := q
  obtain ⟨r0, r1⟩ := Pre.blind (G := G) (tys := tys) (w := w) (sz := sz) (av := av) a U g mk ⟨q0, q1⟩
  exact ⟨r0, r1, va_X.moved (u := U) (U := U.calling g mk a) (Vm.Alike.refl U.vm) q2, q3, q4⟩
def CYX (l : Launch) (y : MethodName) (ws : List Cond) (rm : Room) (G : va_G) (tys : List (ClassId × FieldType)) (av : List Value) (w : va_W) (b L : Nat) (xs : Nat → Int32) (post : Option Value → va_W → Prop) (mc ms : Nat) : Prop := ∀ sz : Nat, Met l y ws rm (va_Pc av (PreX G tys w sz b L xs)) (Qy G post (va_A w sz)) mc ms (va_A w sz)
section RowsX
variable {p : Program} {l : Launch} {e : Env} {R : Room} {s : State} {m : MethodId} {args : Array Value} {below : List Frame} {meth : Method} {c : Code} {H : Heap} {locs : List Loc} {cells slots : Nat} {Q : State → Prop}
variable {cc : ByteArray} {pc : Nat} {ls : Array Slot} {rest st0 : List Value} {G : va_G} {tys : List (ClassId × FieldType)} {A : Nat → Prop} {own : String} {Ts : List Cond} {nL : Nat} {wr wc : va_W} {mc ms b L : Nat} {xs : Nat → Int32} {post : Option Value → va_W → Prop}
theorem r_preX (C : Cx p s m args c G tys A own cc Ts nL) (h : Hx s G A (wr ++ wc) H locs) (hX : va_X b L xs s s.heap) (hbl : b < s.heap.size) (hbA : ¬ A b) {av : List Value} : PreS s H (va_Pc av (PreX G tys wc H.size b L xs)) av := by
  have hp := r_preY (av := av) C h
  obtain ⟨h1, h2, h3⟩ := h
  rw [va_D_mem] at h2
  have hF : ∀ q, va_A wc H.size q → A q := by
    intro q hq
    rcases hq with ⟨k, e, hq⟩ | hq
    · exact h2.2 (q, e) (List.mem_append_right _ (List.mem_of_getElem? hq))
    · exact C.hA q (Nat.le_trans h3.1 hq)
  refine ⟨PreX.blind, fun U hU hW => ?_⟩
  obtain ⟨q1, q2⟩ := hp.2 U hU hW
  exact ⟨q1, q2, by rw [hU]; exact (hX.kept (h3.2.1 b hbl hbA)).moved hW.alike, Nat.lt_of_lt_of_le hbl h3.1, fun g => hbA (hF b g)⟩
theorem r_callSYX (C : Cx p s m args c G tys A own cc Ts nL) (h : Hx s G A (wr ++ wc) H locs) (hX : va_X b L xs s s.heap) (hbl : b < s.heap.size) (hbA : ¬ A b) {y : MethodName} {bytes : ByteArray} {maxL n index : Nat} {ret : Option FieldType} {wsy : List Cond} {rmy : Room} {As : List Value}
    (cw : CallB R s args own index y bytes maxL ret wsy rmy mc ms n ∧ (Cond.static y).before args s = true) (ct : CYX l y wsy rmy G tys As wc b L xs post mc ms)
    (hlen : As.length = n) (hls : ls.size = nL) (hst0 : st0 = As.reverse ++ rest) (hroom : (rest.map fun v => v.category).sum ≤ 8) (hf : cells + mc ≤ R.cells ∧ slots + ms ≤ R.slots) (hdg : decode cc pc = .ok (.invokestatic index, 3))
    (kk : ∀ (res : Option Value) (w1 : va_W) (H1 : Heap) (locs1 : List Loc), post res w1 → Hx s G A (wr ++ w1) H1 locs1 → W p l e R s m args below meth c H1 locs1 (cells + mc) (slots + ms) Q (F0 m (pc + 3) ls (res.toList ++ rest))) : W p l e R s m args below meth c H locs cells slots Q (F0 m pc ls st0) :=
  r_backY C h (va_runS C.fix (ct H.size) cw (r_preX C h hX hbl hbA) rfl hlen hls hst0 (lv_room hroom) hdg hf) kk
end RowsX
theorem CYX.of {l : Launch} {y : MethodName} {ws ws' : List Cond} {rm : Room} {G : va_G} {tys : List (ClassId × FieldType)} {av : List Value} {w : va_W} {b L : Nat} {xs : Nat → Int32} {post : Option Value → va_W → Prop} {mc ms : Nat} {cc : ByteArray} {maxL : Nat} {ret : Option FieldType} (own : String) (ho : y.cls = own) (hy : plainName y.cls = true) (hw : ws = Cond.code y cc maxL ret :: ws') (hlen : (lg_sl av).length ≤ maxL)
    (body : ∀ (p : Program) (e : Env) (s : State) (m : MethodId) (args : Array Value) (below : List Frame) (meth : Method) (c : Code) (A : Nat → Prop) (ls : Array Slot), Cx p s m args c G tys A own cc ws maxL → meth.sig.returnType = ret → meth.locks = false → meth.name = y.name → Hx s G A w s.heap [] → lv_has ls maxL (lv_args 0 av) → va_X b L xs s s.heap → b < s.heap.size → ¬ A b → W p l e rm s m args below meth c s.heap [] 0 0 (MQ below (Qy G post A) args s mc ms A) (F0 m 0 ls [])) : CYX l y ws rm G tys av w b L xs post mc ms := by
  subst ho
  intro sz
  refine Met.ofW (cc := cc) (maxL := maxL) (ret := ret) hy hw ?_
  intro p e s m args below meth c s₁ B hml hv
  obtain ⟨rfl, ⟨hsz, hP, hK, hD0, hSF, hNW⟩, hX, hbl, hbA⟩ := hv
  have hts := atoms_spec (ws := ws) B.pre
  have hown : s.vm.findClass y.cls = some m.cls := findClass_of_methodNamed B.named
  subst hsz
  have hl := lv_entry av (n := maxL) hlen
  rw [lg_entry_eq]
  exact body p e s m _ below meth c _ _ ⟨B.exec, B.bytes, hml, hown, hts, hK, hNW, fun q hq => Or.inr hq, hSF⟩ B.returns B.notSynchronized (name_of_methodNamed B.named B.method).1 ⟨hP, hD0.self, va_S.rf⟩ hl hX hbl hbA
-- low: a number below n
def po_low (n : Nat) : Option Value → va_W → Prop := fun res w' => (∃ r : Nat, r < n ∧ res = some (.int (nI r))) ∧ w' = []
def rm_L_low : Room := { frames := 0, cells := 0, slots := 0, locals := 0 }
theorem kcL_low_7 : Cond.constant RL 7 (2147483647) ∈ wsL_low := List.mem_of_getElem? (i := 1) (by decide +kernel)
theorem c_L_low (l : Launch) (G : va_G) (tys : List (ClassId × FieldType)) (n : Nat) (h1 : 0 < n) (h2 : n ≤ 1000) (x : Int32) : CY l yL_low wsL_low rm_L_low G tys [.int x, .int (nI n)] ([] : va_W) (po_low n) 0 0 := by
  refine CY.of (cc := cL_low) (maxL := 2) (ret := (some .int)) RL rfl (by decide) rfl (Nat.le_of_ble_eq_true rfl) ?_
  intro p e s m args below meth c A ls C hr hlocks hnm h hl
  have hx := C.hx
  have hb := C.hb
  have hl : lv_has ls 2 [(0, .int x), (1, .int (nI n))] := hl
  refine lv_iload_n hx hb dL_low_0 rfl (lv_at hl 0 rfl) ?_
  refine lv_ldc hx hb C.hown (C.hts _ kcL_low_7) dL_low_1 ?_
  refine lv_iand hx hb dL_low_3 ?_
  obtain ⟨j, hj, ej⟩ := pk_andE x (m := 2147483647) 31 (by decide)
  rw [ej]
  refine lv_iload_n hx hb dL_low_4 rfl (lv_at hl 1 rfl) ?_
  refine lv_irem hx hb dL_low_5 (nI_ne0 h1 (by omega)) ?_
  rw [nI_rem (by omega) h1 (by omega)]
  exact y_iret C h ⟨⟨_, Nat.mod_lt _ h1, rfl⟩, rfl⟩ hr hlocks dL_low_6
-- cell: some number
def po_cell : Option Value → va_W → Prop := fun res w' => (∃ v : Int32, res = some (.int v)) ∧ w' = []
def rm_L_cell : Room := { frames := 0, cells := 0, slots := 0, locals := 0 }
theorem kcL_cell_8 : Cond.constant RL 8 (40503) ∈ wsL_cell := List.mem_of_getElem? (i := 1) (by decide +kernel)
theorem c_L_cell (l : Launch) (G : va_G) (tys : List (ClassId × FieldType)) (b L : Nat) (xs : Nat → Int32) (hL : L ≤ 260) (i : Nat) (hi : i < 100000) : CYX l yL_cell wsL_cell rm_L_cell G tys [.ref b, .int (nI i)] ([] : va_W) b L xs po_cell 0 0 := by
  refine CYX.of (cc := cL_cell) (maxL := 2) (ret := (some .int)) RL rfl (by decide) rfl (Nat.le_of_ble_eq_true rfl) ?_
  intro p e s m args below meth c A ls C hr hlocks hnm h hl hX hbl hbA
  have hx := C.hx
  have hb := C.hb
  have hl : lv_has ls 2 [(0, .ref b), (1, .int (nI i))] := hl
  have fin : ∀ v : Int32, W p l e rm_L_cell s m args below meth c s.heap [] 0 0 (MQ below (Qy G po_cell A) args s 0 0 A) (F0 m 20 ls [.int v]) := fun v => y_iret C h ⟨⟨v, rfl⟩, rfl⟩ hr hlocks dL_cell_20
  refine lv_iload_n hx hb dL_cell_0 rfl (lv_at hl 1 rfl) ?_
  refine lv_aload_n hx hb dL_cell_1 rfl (lv_at hl 0 rfl) ?_
  refine va_slen hx hb hX hbl hbA h.2.2 dL_cell_2 ?_
  refine lv_icmp_ge (tgt := 12) hx hb dL_cell_3 (by decide) (fun hc => ?_) (fun hc => ?_)
  · refine lv_ldc hx hb C.hown (C.hts _ kcL_cell_8) dL_cell_12 ?_
    refine lv_iload_n hx hb dL_cell_14 rfl (lv_at hl 1 rfl) ?_
    refine lv_imul hx hb dL_cell_15 ?_
    refine lv_sipush (v := 977) hx hb dL_cell_16 (by decide) ?_
    refine lv_iadd hx hb dL_cell_19 ?_
    exact fin _
  · have hlt : i < L := by
      apply Classical.byContradiction
      intro g
      exact hc ((nI_le31 (a := L) (b := i) (by omega) (by omega)).2 (by omega))
    refine lv_aload_n hx hb dL_cell_6 rfl (lv_at hl 0 rfl) ?_
    refine lv_iload_n hx hb dL_cell_7 rfl (lv_at hl 1 rfl) ?_
    refine va_sld hx hb hX hbl hbA h.2.2 (vp_in_nI hlt (by omega)) dL_cell_8 ?_
    refine lv_goto (tgt := 20) hx hb dL_cell_9 (by decide) ?_
    exact fin _
