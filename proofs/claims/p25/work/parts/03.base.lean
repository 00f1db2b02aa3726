/-! ===== base: bundles of what every walk has at hand, and rows over them ===== -/
-- option rows: the mirror of a method is a function into Option
def nm {α β : Type} (e : α) (k : α → β) : β := k e
def chk {α : Type} (i : Int32) (n : Nat) (k : Nat → Option α) : Option α := if i < 0 ∨ n ≤ i.toNatClampNeg then none else k i.toNatClampNeg
def ob0 {α γ : Type} (o : Option α) (k : Option γ) : Option γ := o.bind (fun _ => k)
def ob1 {α γ : Type} (o : Option α) (k : α → Option γ) : Option γ := o.bind k
def ob2 {α β γ : Type} (o : Option (α × β)) (k : α → β → Option γ) : Option γ := o.bind (fun z => k z.1 z.2)
def ob3 {α β δ γ : Type} (o : Option (α × β × δ)) (k : α → β → δ → Option γ) : Option γ := o.bind (fun z => k z.1 z.2.1 z.2.2)
def ob4 {α β δ ε γ : Type} (o : Option (α × β × δ × ε)) (k : α → β → δ → ε → Option γ) : Option γ := o.bind (fun z => k z.1 z.2.1 z.2.2.1 z.2.2.2)
def ob5 {α β δ ε ζ γ : Type} (o : Option (α × β × δ × ε × ζ)) (k : α → β → δ → ε → ζ → Option γ) : Option γ := o.bind (fun z => k z.1 z.2.1 z.2.2.1 z.2.2.2.1 z.2.2.2.2)
def ob6 {α β δ ε ζ η γ : Type} (o : Option (α × β × δ × ε × ζ × η)) (k : α → β → δ → ε → ζ → η → Option γ) : Option γ := o.bind (fun z => k z.1 z.2.1 z.2.2.1 z.2.2.2.1 z.2.2.2.2.1 z.2.2.2.2.2)
def ob7 {α β δ ε ζ η θ γ : Type} (o : Option (α × β × δ × ε × ζ × η × θ)) (k : α → β → δ → ε → ζ → η → θ → Option γ) : Option γ := o.bind (fun z => k z.1 z.2.1 z.2.2.1 z.2.2.2.1 z.2.2.2.2.1 z.2.2.2.2.2.1 z.2.2.2.2.2.2)
theorem nm_use {α β : Type} {e x : α} {k : α → Option β} {r : Option β} (h : nm e k = r) (hx : x = e) : k x = r := by subst hx; exact h
theorem chk_use {α : Type} {i : Int32} {n : Nat} {k : Nat → Option α} {r : α} (h : chk i n k = some r) : ∃ j, (vp_in i n ∧ i.toNatClampNeg = j) ∧ k j = some r := by
  unfold chk at h
  split at h
  · cases h
  · rename_i hn
    exact ⟨_, ⟨hn, rfl⟩, h⟩
theorem ob0_use {α γ : Type} {o : Option α} {k : Option γ} {r : γ} (h : ob0 o k = some r) : ∃ a, o = some a ∧ k = some r := by
  cases o with
  | none => cases h
  | some a => exact ⟨a, rfl, h⟩
theorem ob1_use {α γ : Type} {o : Option α} {k : α → Option γ} {r : γ} (h : ob1 o k = some r) : ∃ a, o = some a ∧ k a = some r := by
  cases o with
  | none => cases h
  | some a => exact ⟨a, rfl, h⟩
theorem ob2_use {α β γ : Type} {o : Option (α × β)} {k : α → β → Option γ} {r : γ} (h : ob2 o k = some r) : ∃ a b, o = some (a, b) ∧ k a b = some r := by
  cases o with
  | none => cases h
  | some a => exact ⟨a.1, a.2, rfl, h⟩
theorem ob3_use {α β δ γ : Type} {o : Option (α × β × δ)} {k : α → β → δ → Option γ} {r : γ} (h : ob3 o k = some r) : ∃ a b c, o = some (a, b, c) ∧ k a b c = some r := by
  cases o with
  | none => cases h
  | some a => exact ⟨a.1, a.2.1, a.2.2, rfl, h⟩
theorem ob4_use {α β δ ε γ : Type} {o : Option (α × β × δ × ε)} {k : α → β → δ → ε → Option γ} {r : γ} (h : ob4 o k = some r) : ∃ a b c d, o = some (a, b, c, d) ∧ k a b c d = some r := by
  cases o with
  | none => cases h
  | some a => exact ⟨a.1, a.2.1, a.2.2.1, a.2.2.2, rfl, h⟩
theorem ob5_use {α β δ ε ζ γ : Type} {o : Option (α × β × δ × ε × ζ)} {k : α → β → δ → ε → ζ → Option γ} {r : γ} (h : ob5 o k = some r) : ∃ a b c d e, o = some (a, b, c, d, e) ∧ k a b c d e = some r := by
  cases o with
  | none => cases h
  | some a => exact ⟨a.1, a.2.1, a.2.2.1, a.2.2.2.1, a.2.2.2.2, rfl, h⟩
theorem ob6_use {α β δ ε ζ η γ : Type} {o : Option (α × β × δ × ε × ζ × η)} {k : α → β → δ → ε → ζ → η → Option γ} {r : γ} (h : ob6 o k = some r) : ∃ a b c d e f, o = some (a, b, c, d, e, f) ∧ k a b c d e f = some r := by
  cases o with
  | none => cases h
  | some a => exact ⟨a.1, a.2.1, a.2.2.1, a.2.2.2.1, a.2.2.2.2.1, a.2.2.2.2.2, rfl, h⟩
theorem ob7_use {α β δ ε ζ η θ γ : Type} {o : Option (α × β × δ × ε × ζ × η × θ)} {k : α → β → δ → ε → ζ → η → θ → Option γ} {r : γ} (h : ob7 o k = some r) : ∃ a b c d e f g, o = some (a, b, c, d, e, f, g) ∧ k a b c d e f g = some r := by
  cases o with
  | none => cases h
  | some a => exact ⟨a.1, a.2.1, a.2.2.1, a.2.2.2.1, a.2.2.2.2.1, a.2.2.2.2.2.1, a.2.2.2.2.2.2, rfl, h⟩
theorem it_t {α : Type} {c : Prop} [Decidable c] {A B r : Option α} (h : (if c then A else B) = r) (hc : c) : A = r := by rw [if_pos hc] at h; exact h
theorem it_f {α : Type} {c : Prop} [Decidable c] {A B r : Option α} (h : (if c then A else B) = r) (hc : ¬ c) : B = r := by rw [if_neg hc] at h; exact h
/-- a side condition that the pure side owes -/
def nd {α : Type} (c : Prop) [Decidable c] (k : Option α) : Option α := if c then k else none
theorem nd_use {α : Type} {c : Prop} [Decidable c] {k : Option α} {r : α} (h : nd c k = some r) : c ∧ k = some r := by
  unfold nd at h
  split at h
  · rename_i hc
    exact ⟨hc, h⟩
  · cases h
-- nest mates' words
def nwF : List (String × Nat × String × String × String × String) := [("LineDoubler$State", 33, "LineDoubler", "FIRST_SETTINGS", "[I", "LineDoubler"), ("LineDoubler", 63, "LineDoubler$State", "numbers", "[I", "LineDoubler"), ("LineDoubler", 71, "LineDoubler$State", "queue", "LLineDoubler$Table;", "LineDoubler"), ("LineDoubler", 83, "LineDoubler$State", "screen", "LLineDoubler$Table;", "LineDoubler"), ("LineDoubler", 91, "LineDoubler$State", "lost", "LLineDoubler$Table;", "LineDoubler"), ("LineDoubler", 98, "LineDoubler$History", "size", "I", "LineDoubler"), ("LineDoubler", 94, "LineDoubler$Pad", "length", "I", "LineDoubler"), ("LineDoubler$State", 58, "LineDoubler", "LEAST_SETTINGS", "[I", "LineDoubler"), ("LineDoubler$State", 61, "LineDoubler", "MOST_SETTINGS", "[I", "LineDoubler")]
def nwM : List (String × Nat × MethodName × String) := [("LineDoubler", 25, yX0_init, "LineDoubler"), ("LineDoubler", 32, yX1_init, "LineDoubler"), ("LineDoubler$History", 24, yX4_keepCopy, "LineDoubler"), ("LineDoubler$State", 50, yX4_isWithin, "LineDoubler")]
def NW (U : State) : Prop := (∀ t ∈ nwF, va_Nw (.fieldLinkNest t.1 t.2.1 t.2.2.1 t.2.2.2.1 t.2.2.2.2.1 t.2.2.2.2.2) U) ∧ (∀ t ∈ nwM, va_Nw (.methodLinkNest t.1 t.2.1 t.2.2.1 t.2.2.2) U) ∧ va_AO RX2 U
theorem NW.warm {s U : State} (hW : s.WarmedH U.vm) (h : NW s) : NW U := ⟨fun t ht => va_Nw.warmF hW (h.1 t ht), fun t ht => va_Nw.warmM hW (h.2.1 t ht), va_AO.moved hW.alike h.2.2⟩
theorem NW.same {u U : State} (hv : u.vm = U.vm) (h : NW u) : NW U := ⟨fun t ht => va_Nw.same rfl hv (h.1 t ht), fun t ht => va_Nw.same rfl hv (h.2.1 t ht), va_AO.moved (by rw [hv]; exact Vm.Alike.refl _) h.2.2⟩
-- the three static tables
def sfFirst : Nat → Int32 := fun k => match k with
  | 0 => 10
  | 1 => 5
  | 2 => 4
  | 3 => 4
  | 4 => 0
  | 5 => 0
  | 6 => 255
  | _ => 0
def sfLeast : Nat → Int32 := fun k => match k with
  | 0 => 2
  | 1 => 1
  | 2 => 1
  | 3 => 2
  | _ => 0
def sfMost : Nat → Int32 := fun k => match k with
  | 0 => 99
  | 1 => 99
  | 2 => 16
  | 3 => 16
  | 4 => 1
  | 5 => 1
  | _ => 255
def SF1 (n : String) (f : Nat → Int32) (A : Nat → Prop) (U : State) (H : Heap) : Prop := ∃ t : Nat, va_Z RX4 n "[I" (.ref t) A U H ∧ va_T .int t 8 (fun j => .int (f j)) A U H
def SF (A : Nat → Prop) (U : State) (H : Heap) : Prop := SF1 "FIRST_SETTINGS" sfFirst A U H ∧ SF1 "LEAST_SETTINGS" sfLeast A U H ∧ SF1 "MOST_SETTINGS" sfMost A U H
theorem SF1.moved {n : String} {f : Nat → Int32} {A : Nat → Prop} {u U : State} {H : Heap} (hv : u.vm.Alike U.vm) (h : SF1 n f A u H) : SF1 n f A U H := by
  obtain ⟨t, h1, h2⟩ := h
  exact ⟨t, h1.moved hv, h2.moved hv⟩
theorem SF1.kept {n : String} {f : Nat → Int32} {A B : Nat → Prop} {U : State} {H H1 : Heap} (h : SF1 n f A U H) (hq : ∀ a : Nat, a < H.size → ¬ A a → H1[a]? = H[a]?) (hAB : ∀ q, B q → A q) : SF1 n f B U H1 := by
  obtain ⟨t, h1, h2⟩ := h
  exact ⟨t, (h1.kept hq).narrow hAB, (h2.kept hq).narrow hAB⟩
theorem SF.moved {A : Nat → Prop} {u U : State} {H : Heap} (hv : u.vm.Alike U.vm) (h : SF A u H) : SF A U H := ⟨h.1.moved hv, h.2.1.moved hv, h.2.2.moved hv⟩
theorem SF.kept {A B : Nat → Prop} {U : State} {H H1 : Heap} (h : SF A U H) (hq : ∀ a : Nat, a < H.size → ¬ A a → H1[a]? = H[a]?) (hAB : ∀ q, B q → A q) : SF B U H1 := ⟨h.1.kept hq hAB, h.2.1.kept hq hAB, h.2.2.kept hq hAB⟩
/-- what a method finds at its start -/
def Pre (G : va_G) (tys : List (ClassId × FieldType)) (w : va_W) (sz : Nat) : State → Prop := fun U => U.heap.size = sz ∧ va_P G vwCl w U.heap ∧ va_K G vwCl tys U ∧ va_D (fun _ => True) w ∧ SF (va_A w sz) U U.heap ∧ NW U
/-- what it leaves -/
def Qx (G : va_G) (res : Option Value) (w' : va_W) (A : Nat → Prop) : Array Value → State → Outcome → State → Prop := fun _ st oc t => (oc = .returned res ∧ va_P G vwCl w' t.heap ∧ va_D A w') ∧ va_F A st t
theorem Pre.blind {G : va_G} {tys : List (ClassId × FieldType)} {w : va_W} {sz : Nat} {av : List Value} : FrameBlind (va_Pc av (Pre G tys w sz)) := by
  intro a U g mk q
  obtain ⟨q0, q1, qP, qK, qD, qS, qN⟩ := q
  exact ⟨q0, q1, qP, va_K.moved (u := U) (U := U.calling g mk a) (Vm.Alike.refl U.vm) qK, qD, qS.moved (u := U) (U := U.calling g mk a) (Vm.Alike.refl U.vm), NW.same (u := U) (U := U.calling g mk a) rfl qN⟩
/-- a method that makes nothing: its contract -/
def CT (l : Launch) (y : MethodName) (ws : List Cond) (rm : Room) (G : va_G) (tys : List (ClassId × FieldType)) (av : List Value) (w : va_W) (res : Option Value) (w' : va_W) : Prop := ∀ sz : Nat, Met l y ws rm (va_Pc av (Pre G tys w sz)) (Qx G res w' (va_A w sz)) 0 0 (va_A w sz)
/-- what stays through a walk -/
def Cx (p : Program) (s : State) (m : MethodId) (args : Array Value) (c : Code) (G : va_G) (tys : List (ClassId × FieldType)) (A : Nat → Prop) (own : String) (cc : ByteArray) (Ts : List Cond) (nL : Nat) : Prop :=
  p.tables.exec = Jvm.exec ∧ c.code = cc ∧ c.maxLocals = nL ∧ s.vm.findClass own = some m.cls ∧ (∀ w ∈ Ts, w.before args s = true) ∧ va_K G vwCl tys s ∧ NW s ∧ (∀ q, s.heap.size ≤ q → A q) ∧ SF A s s.heap
/-- what the heap holds at a point of a walk -/
def Hx (s : State) (G : va_G) (A : Nat → Prop) (w : va_W) (H : Heap) (locs : List Loc) : Prop := va_P G vwCl w H ∧ va_D A w ∧ va_S A s.heap H locs
/-- places of a world written anew -/
def upds : va_W → List Nat → va_W → va_W
  | ws, i :: is, x :: xs => upds (ws.set i x) is xs
  | ws, _, _ => ws
theorem upds_get : ∀ (is : List Nat) (wc' ws : va_W), is.length = wc'.length → va_nd is = true → (∀ i ∈ is, i < ws.length) → ∀ (k : Nat) (q : Nat × va_E), (upds ws is wc')[k]? = some q → (k ∉ is ∧ ws[k]? = some q) ∨ ∃ j : Nat, is[j]? = some k ∧ wc'[j]? = some q
  | [], [], ws, _, _, _, k, q, h => Or.inl ⟨List.not_mem_nil, h⟩
  | [], _ :: _, _, h, _, _, _, _, _ => by cases h
  | _ :: _, [], _, h, _, _, _, _, _ => by cases h
  | i :: is, x :: xs, ws, hl, hn, hi, k, q, h => by
    simp only [va_nd, Bool.and_eq_true, decide_eq_true_eq] at hn
    have ih := upds_get is xs (ws.set i x) (by simpa using hl) hn.2 (fun j hj => by rw [List.length_set]; exact hi j (List.mem_cons_of_mem _ hj)) k q h
    rcases ih with ⟨h1, h2⟩ | ⟨j, h1, h2⟩
    · by_cases hk : k = i
      · subst hk
        rw [List.getElem?_set_self (hi k List.mem_cons_self)] at h2
        exact Or.inr ⟨0, rfl, h2⟩
      · rw [List.getElem?_set_ne (Ne.symm hk)] at h2
        refine Or.inl ⟨fun hm => ?_, h2⟩
        rcases List.mem_cons.mp hm with e | e
        · exact hk e
        · exact h1 e
    · exact Or.inr ⟨j + 1, h1, h2⟩
theorem va_back {A0 : Nat → Prop} {D : va_G} {cl : List vw_C} {ws wc wc' : va_W} {H H1 : Heap} (hP : va_P D cl ws H) (hD : va_D A0 ws) (is : List Nat) (hC : is.map (fun i => ws[i]?) = wc.map some) (hn : va_nd is = true) (ha : wc'.map Prod.fst = wc.map Prod.fst)
    (hk : ∀ q : Nat, q < H.size → ¬ va_A wc H.size q → H1[q]? = H[q]?) (hP1 : va_P D cl wc' H1) : va_P D cl (upds ws is wc') H1 ∧ va_D A0 (upds ws is wc') := by
  have hlen : is.length = wc'.length := by
    have h1 := congrArg List.length hC
    have h2 := congrArg List.length ha
    simp only [List.length_map] at h1 h2
    omega
  have hlt : ∀ i ∈ is, i < ws.length := by
    intro i hi
    obtain ⟨j, hj⟩ := List.getElem?_of_mem hi
    have h1 : (is.map (fun i => ws[i]?))[j]? = some (ws[i]?) := by rw [List.getElem?_map, hj]; rfl
    rw [hC, List.getElem?_map] at h1
    cases hw : wc[j]? with
    | none => rw [hw] at h1; cases h1
    | some q => rw [hw] at h1; exact (List.getElem?_eq_some_iff.mp (Option.some.inj h1).symm).1
  have old : ∀ (j k : Nat), is[j]? = some k → ∀ q, wc'[j]? = some q → ∃ q0, ws[k]? = some q0 ∧ wc[j]? = some q0 ∧ q0.1 = q.1 := by
    intro j k hj q hq
    have h1 : (is.map (fun i => ws[i]?))[j]? = some (ws[k]?) := by rw [List.getElem?_map, hj]; rfl
    rw [hC, List.getElem?_map] at h1
    cases hw : wc[j]? with
    | none => rw [hw] at h1; cases h1
    | some q0 =>
      rw [hw] at h1
      refine ⟨q0, (Option.some.inj h1).symm, rfl, ?_⟩
      have h2 := congrArg (fun l => l[j]?) ha
      simp only [List.getElem?_map, hw, hq, Option.map_some] at h2
      exact (Option.some.inj h2).symm
  refine ⟨fun k q h => ?_, ⟨fun i j p q h1 h2 hpq => ?_, fun k q h => ?_⟩⟩
  · rcases upds_get is wc' ws hlen hn hlt k q h with ⟨h1, h2⟩ | ⟨j, h1, h2⟩
    · have hl := (hP k q h2).lt
      refine (hP k q h2).kept (hk q.1 hl (fun z => ?_))
      rcases z with ⟨k2, e, z⟩ | z
      · have h3 : (is.map (fun i => ws[i]?))[k2]? = some (some (q.1, e)) := by rw [hC, List.getElem?_map, z]; rfl
        rw [List.getElem?_map] at h3
        cases hi : is[k2]? with
        | none => rw [hi] at h3; cases h3
        | some i =>
          rw [hi] at h3
          have := hD.1 k i q (q.1, e) h2 (Option.some.inj h3) rfl
          subst this
          exact h1 (List.mem_of_getElem? hi)
      · omega
    · exact hP1 j q h2
  · have key : ∀ (k : Nat) (q : Nat × va_E), (upds ws is wc')[k]? = some q → ∃ q0, ws[k]? = some q0 ∧ q0.1 = q.1 := by
      intro k q h
      rcases upds_get is wc' ws hlen hn hlt k q h with ⟨-, h2⟩ | ⟨j, h1, h2⟩
      · exact ⟨q, h2, rfl⟩
      · obtain ⟨q0, a1, -, a3⟩ := old j k h1 q h2
        exact ⟨q0, a1, a3⟩
    obtain ⟨p0, a1, a2⟩ := key i p h1
    obtain ⟨q0, b1, b2⟩ := key j q h2
    exact hD.1 i j p0 q0 a1 b1 (a2.trans (hpq.trans b2.symm))
  · rcases upds_get is wc' ws hlen hn hlt k q h with ⟨-, h2⟩ | ⟨j, h1, h2⟩
    · exact hD.2 k q h2
    · obtain ⟨q0, a1, -, a3⟩ := old j k h1 q h2
      rw [← a3]
      exact hD.2 k q0 a1
