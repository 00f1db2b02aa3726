def fL_lines_224 (nu : Nat → Int32) (qu : Nat → Int32) (pl : Int32) (hs : Int32) : Option (Int32) :=
  some (0)

def fL_lines_174 (nu : Nat → Int32) (qu : Nat → Int32) (pl : Int32) (hs : Int32) (x1 : Int32) : Option (Int32) :=
  (if x1 = 0 then
  fL_lines_224 nu qu pl hs
  else
  ob1 (fX4_count nu pl hs (2 : Int32)) fun r_1 =>
  ob1 (fX4_waiting nu qu r_1 (0 : Int32)) fun r_3 =>
  (if r_3 = (-1) then
  ob1 (fX4_count nu pl hs (9 : Int32)) fun r_5 =>
  ob1 (fX4_count nu pl hs (19 : Int32)) fun r_7 =>
  ob1 (fX4_count nu pl hs (8 : Int32)) fun r_9 =>
  ob1 (fX4_count nu pl hs (1 : Int32)) fun r_11 =>
  (if ((r_5 * r_7) + r_9) = r_11 then
  some (1)
  else
  fL_lines_224 nu qu pl hs)
  else
  fL_lines_224 nu qu pl hs))

def fL_lines_49_b (rec : (Nat → Int32) → (Nat → Int32) → Int32 → Int32 → Int32 → Int32 → Int32 → Option (Int32)) (nu : Nat → Int32) (qu : Nat → Int32) (pl : Int32) (hs : Int32) (x1 : Int32) (x2 : Int32) (x3 : Int32) : Option (Int32) :=
  ob1 (fX4_count nu pl hs (2 : Int32)) fun r_1 =>
  (if r_1 ≤ x3 then
  fL_lines_174 nu qu pl hs x1
  else
  (if x1 = 0 then
  fL_lines_174 nu qu pl hs x1
  else
  ob1 (fX4_waiting nu qu x3 (0 : Int32)) fun r_3 =>
  ob1 (fX4_count nu pl hs (19 : Int32)) fun r_5 =>
  ob1 (fX4_waiting nu qu x3 (1 : Int32)) fun r_7 =>
  nm (((r_3 * r_5) + r_7)) fun x4_9 =>
  (if x4_9 ≤ x2 then
  nm (x3 + 1) fun x3_10 =>
  rec nu qu pl hs 0 x4_9 x3_10
  else
  ob1 (fX4_count nu pl hs (1 : Int32)) fun r_11 =>
  (if r_11 ≤ x4_9 then
  nm (x3 + 1) fun x3_13 =>
  rec nu qu pl hs 0 x4_9 x3_13
  else
  ob1 (fX4_waiting nu qu x3 (1 : Int32)) fun r_14 =>
  ob1 (fX4_count nu pl hs (19 : Int32)) fun r_16 =>
  (if r_16 ≤ r_14 then
  nm (x3 + 1) fun x3_18 =>
  rec nu qu pl hs 0 x4_9 x3_18
  else
  ob1 (fX4_waiting nu qu x3 (3 : Int32)) fun r_19 =>
  (if 2 ≤ r_19 then
  nm (x3 + 1) fun x3_21 =>
  rec nu qu pl hs 0 x4_9 x3_21
  else
  (if x3 = 0 then
  ob1 (fX4_waiting nu qu x3 (2 : Int32)) fun r_22 =>
  (if r_22 < 0 then
  nm (x3 + 1) fun x3_24 =>
  rec nu qu pl hs 0 x4_9 x3_24
  else
  ob1 (fX4_waiting nu qu x3 (2 : Int32)) fun r_25 =>
  (if 256 ≤ r_25 then
  nm (x3 + 1) fun x3_27 =>
  rec nu qu pl hs 0 x4_9 x3_27
  else
  nm (x3 + 1) fun x3_28 =>
  rec nu qu pl hs 1 x4_9 x3_28))
  else
  ob1 (fX4_waiting nu qu x3 (3 : Int32)) fun r_29 =>
  (if r_29 = 0 then
  ob1 (fX4_waiting nu qu x3 (2 : Int32)) fun r_32 =>
  (if r_32 < 0 then
  nm (x3 + 1) fun x3_34 =>
  rec nu qu pl hs 0 x4_9 x3_34
  else
  ob1 (fX4_waiting nu qu x3 (2 : Int32)) fun r_35 =>
  (if 256 ≤ r_35 then
  nm (x3 + 1) fun x3_37 =>
  rec nu qu pl hs 0 x4_9 x3_37
  else
  nm (x3 + 1) fun x3_38 =>
  rec nu qu pl hs 1 x4_9 x3_38))
  else
  nm (x3 + 1) fun x3_31 =>
  rec nu qu pl hs 0 x4_9 x3_31))))))))
def fL_lines_49 : Nat → (Nat → Int32) → (Nat → Int32) → Int32 → Int32 → Int32 → Int32 → Int32 → Option (Int32)
  | 0 => fun _ _ _ _ _ _ _ => none
  | n + 1 => fL_lines_49_b (fL_lines_49 n)

def fL_lines_45 (nu : Nat → Int32) (qu : Nat → Int32) (pl : Int32) (hs : Int32) (x1 : Int32) : Option (Int32) :=
  nm (((-1) : Int32)) fun x2_1 =>
  fL_lines_49 KF nu qu pl hs x1 x2_1 0

def fL_lines_43 (nu : Nat → Int32) (qu : Nat → Int32) (pl : Int32) (hs : Int32) : Option (Int32) :=
  fL_lines_45 nu qu pl hs 0

/-- the mirror of L_lines -/
def fL_lines (nu : Nat → Int32) (qu : Nat → Int32) (pl : Int32) (hs : Int32) : Option (Int32) :=
  ob1 (fX4_count nu pl hs (1 : Int32)) fun r_1 =>
  ob1 (fX4_count nu pl hs (2 : Int32)) fun r_3 =>
  ob1 (fX4_count nu pl hs (3 : Int32)) fun r_5 =>
  ob1 (fX4_count nu pl hs (4 : Int32)) fun r_7 =>
  (if r_1 = ((r_3 + r_5) + r_7) then
  ob1 (fX4_count nu pl hs (2 : Int32)) fun r_9 =>
  ob1 (fX4_count nu pl hs (18 : Int32)) fun r_11 =>
  (if r_11 < r_9 then
  fL_lines_43 nu qu pl hs
  else
  fL_lines_45 nu qu pl hs 1)
  else
  fL_lines_43 nu qu pl hs)

def rm_L_lines : Room := { frames := 2, cells := 0, slots := 0, locals := 45 }
set_option maxRecDepth 20000 in
theorem cw_L_lines_X4_count_9 {s : State} {args : Array Value} (hts : ∀ w ∈ wsL_lines, w.before args s = true) : CallW rm_L_lines s args RL RX4 9 yX4_count cX4_count 2 (some .int) wsX4_count rm_X4_count 0 0 1 :=
  cwV 1 hts gL_lines_X4_count rfl rfl rfl (by decide +kernel) ⟨Nat.le_of_ble_eq_true rfl, Nat.le_of_ble_eq_true rfl⟩
set_option maxRecDepth 20000 in
theorem cw_L_lines_X4_waiting_15 {s : State} {args : Array Value} (hts : ∀ w ∈ wsL_lines, w.before args s = true) : CallW rm_L_lines s args RL RX4 15 yX4_waiting cX4_waiting 3 (some .int) wsX4_waiting rm_X4_waiting 0 0 2 :=
  cwV 2 hts gL_lines_X4_waiting rfl rfl rfl (by decide +kernel) ⟨Nat.le_of_ble_eq_true rfl, Nat.le_of_ble_eq_true rfl⟩
set_option maxHeartbeats 4000000 in
set_option maxRecDepth 100000 in
theorem c_L_lines (l : Launch) (G : va_G) (cI cC cZ : ClassId) (X : List (ClassId × FieldType)) (d0 b0 sl a0 a1 a2 a3 a4 a5 a6 a7 a8 p0 p1 h0 h1 : Nat) (nu : Nat → Int32) (va : Nat → Int32) (qu : Nat → Int32) (sc : Nat → Int32) (lo : Nat → Int32) (wt : Int32) (ch : Nat → Int32) (pl : Int32) (pa : Int32) (po : Int32) (pf : Int32) (ps : Int32) (ho : Int32) (hs : Int32) (rv : Int32) (hf : fL_lines nu qu pl hs = some (rv)) : CT l yL_lines wsL_lines rm_L_lines G (TY cI cC cZ X) [.ref d0] (wLDc cI cC d0 b0 sl a0 a1 a2 a3 a4 a5 a6 a7 a8 p0 p1 h0 h1 nu va qu sc lo wt ch pl pa po pf ps ho hs) (some (.int rv)) (wLDc cI cC d0 b0 sl a0 a1 a2 a3 a4 a5 a6 a7 a8 p0 p1 h0 h1 nu va qu sc lo wt ch pl pa po pf ps ho hs) := by
  refine CT.of (cc := cL_lines) (maxL := 5) (ret := (some .boolean)) RL rfl (by decide) rfl (Nat.le_of_ble_eq_true rfl) ?_
  intro p e s m args below meth c A ls C hr hlocks hnm h hl
  have hx := C.hx
  have hb := C.hb
  have hl : lv_has ls 5 [(0, .ref d0)] := hl
  have cut_224 : ∀ (H : Heap) (locs : List Loc) (ls : Array Slot), Hx s G A (wLDc cI cC d0 b0 sl a0 a1 a2 a3 a4 a5 a6 a7 a8 p0 p1 h0 h1 nu va qu sc lo wt ch pl pa po pf ps ho hs) H locs → lv_has ls 5 [] → fL_lines_224 nu qu pl hs = some (rv) → W p l e rm_L_lines s m args below meth c H locs 0 0 (MQ below (Qx G (some (.int rv)) (wLDc cI cC d0 b0 sl a0 a1 a2 a3 a4 a5 a6 a7 a8 p0 p1 h0 h1 nu va qu sc lo wt ch pl pa po pf ps ho hs) A) args s 0 0 A) (F0 m 224 ls []) := by
    intro H locs ls h hl hf
    unfold fL_lines_224 at hf
    refine lv_iconst (v := 0) hx hb dL_lines_224 (by decide) ?_
    cases hf
    exact r_zret C h hr hlocks rfl dL_lines_225
  have cut_174 : ∀ (x1 : Int32) (H : Heap) (locs : List Loc) (ls : Array Slot), Hx s G A (wLDc cI cC d0 b0 sl a0 a1 a2 a3 a4 a5 a6 a7 a8 p0 p1 h0 h1 nu va qu sc lo wt ch pl pa po pf ps ho hs) H locs → lv_has ls 5 [(0, .ref d0), (1, .int x1)] → fL_lines_174 nu qu pl hs x1 = some (rv) → W p l e rm_L_lines s m args below meth c H locs 0 0 (MQ below (Qx G (some (.int rv)) (wLDc cI cC d0 b0 sl a0 a1 a2 a3 a4 a5 a6 a7 a8 p0 p1 h0 h1 nu va qu sc lo wt ch pl pa po pf ps ho hs) A) args s 0 0 A) (F0 m 174 ls []) := by
    intro x1 H locs ls h hl hf
    unfold fL_lines_174 at hf
    refine lv_iload_n hx hb dL_lines_174 rfl (lv_at hl 1 rfl) ?_
    refine lv_if_eq (tgt := 224) hx hb dL_lines_175 (by decide) (fun hc => ?_) (fun hc => ?_)
    · replace hf := it_t hf hc
      exact cut_224 _ _ _ h (lv_sub hl [] rfl) hf
    · replace hf := it_f hf hc
      refine lv_aload_n hx hb dL_lines_178 rfl (lv_at hl 0 rfl) ?_
      refine lv_aload_n hx hb dL_lines_179 rfl (lv_at hl 0 rfl) ?_
      refine lv_iconst (v := 2) hx hb dL_lines_180 (by decide) ?_
      obtain ⟨r_1, hq_2, hf⟩ := ob1_use hf
      refine r_callV0 C h (cw_L_lines_X4_count_9 C.hts) (rest := [.ref d0]) (ci := 4) (N := 5) (Cn := RX4) (T := TX4) (c_X4_count l G cI cC cZ X d0 b0 sl a0 a1 a2 a3 a4 a5 a6 a7 a8 p0 p1 h0 h1 nu va qu sc lo wt ch pl pa po pf ps ho hs (2 : Int32) r_1 hq_2) [0, 1, 2, 3, 4, 5, 6, 7, 8, 9, 10, 11, 12] rfl rfl rfl 0 rfl rfl hl.1 rfl (Nat.le_of_ble_eq_true rfl) ⟨Nat.le_of_ble_eq_true rfl, Nat.le_of_ble_eq_true rfl⟩ rfl dL_lines_181 (fun H locs h => ?_)
      refine lv_iconst (v := 0) hx hb dL_lines_184 (by decide) ?_
      obtain ⟨r_3, hq_4, hf⟩ := ob1_use hf
      refine r_callV0 C h (cw_L_lines_X4_waiting_15 C.hts) (rest := []) (ci := 4) (N := 5) (Cn := RX4) (T := TX4) (c_X4_waiting l G cI cC cZ X d0 b0 sl h0 p0 a0 a1 a2 a3 a4 a5 a6 a7 a8 nu va qu sc lo wt r_1 (0 : Int32) r_3 hq_4) [0, 1, 2, 3, 4, 5, 6, 7, 8, 9] rfl rfl rfl 0 rfl rfl hl.1 rfl (Nat.le_of_ble_eq_true rfl) ⟨Nat.le_of_ble_eq_true rfl, Nat.le_of_ble_eq_true rfl⟩ rfl dL_lines_185 (fun H locs h => ?_)
      refine lv_iconst (v := (-1)) hx hb dL_lines_188 (by decide) ?_
      refine lv_icmp_ne (tgt := 224) hx hb dL_lines_189 (by decide) (fun hc => ?_) (fun hc => ?_)
      · replace hf := it_f hf hc
        exact cut_224 _ _ _ h (lv_sub hl [] rfl) hf
      · replace hf := it_t hf hc
        refine lv_aload_n hx hb dL_lines_192 rfl (lv_at hl 0 rfl) ?_
        refine lv_bipush (v := 9) hx hb dL_lines_193 (by decide) ?_
        obtain ⟨r_5, hq_6, hf⟩ := ob1_use hf
        refine r_callV0 C h (cw_L_lines_X4_count_9 C.hts) (rest := []) (ci := 4) (N := 5) (Cn := RX4) (T := TX4) (c_X4_count l G cI cC cZ X d0 b0 sl a0 a1 a2 a3 a4 a5 a6 a7 a8 p0 p1 h0 h1 nu va qu sc lo wt ch pl pa po pf ps ho hs (9 : Int32) r_5 hq_6) [0, 1, 2, 3, 4, 5, 6, 7, 8, 9, 10, 11, 12] rfl rfl rfl 0 rfl rfl hl.1 rfl (Nat.le_of_ble_eq_true rfl) ⟨Nat.le_of_ble_eq_true rfl, Nat.le_of_ble_eq_true rfl⟩ rfl dL_lines_195 (fun H locs h => ?_)
        refine lv_aload_n hx hb dL_lines_198 rfl (lv_at hl 0 rfl) ?_
        refine lv_bipush (v := 19) hx hb dL_lines_199 (by decide) ?_
        obtain ⟨r_7, hq_8, hf⟩ := ob1_use hf
        refine r_callV0 C h (cw_L_lines_X4_count_9 C.hts) (rest := [.int r_5]) (ci := 4) (N := 5) (Cn := RX4) (T := TX4) (c_X4_count l G cI cC cZ X d0 b0 sl a0 a1 a2 a3 a4 a5 a6 a7 a8 p0 p1 h0 h1 nu va qu sc lo wt ch pl pa po pf ps ho hs (19 : Int32) r_7 hq_8) [0, 1, 2, 3, 4, 5, 6, 7, 8, 9, 10, 11, 12] rfl rfl rfl 0 rfl rfl hl.1 rfl (Nat.le_of_ble_eq_true rfl) ⟨Nat.le_of_ble_eq_true rfl, Nat.le_of_ble_eq_true rfl⟩ rfl dL_lines_201 (fun H locs h => ?_)
        refine lv_imul hx hb dL_lines_204 ?_
        refine lv_aload_n hx hb dL_lines_205 rfl (lv_at hl 0 rfl) ?_
        refine lv_bipush (v := 8) hx hb dL_lines_206 (by decide) ?_
        obtain ⟨r_9, hq_10, hf⟩ := ob1_use hf
        refine r_callV0 C h (cw_L_lines_X4_count_9 C.hts) (rest := [.int (r_5 * r_7)]) (ci := 4) (N := 5) (Cn := RX4) (T := TX4) (c_X4_count l G cI cC cZ X d0 b0 sl a0 a1 a2 a3 a4 a5 a6 a7 a8 p0 p1 h0 h1 nu va qu sc lo wt ch pl pa po pf ps ho hs (8 : Int32) r_9 hq_10) [0, 1, 2, 3, 4, 5, 6, 7, 8, 9, 10, 11, 12] rfl rfl rfl 0 rfl rfl hl.1 rfl (Nat.le_of_ble_eq_true rfl) ⟨Nat.le_of_ble_eq_true rfl, Nat.le_of_ble_eq_true rfl⟩ rfl dL_lines_208 (fun H locs h => ?_)
        refine lv_iadd hx hb dL_lines_211 ?_
        refine lv_aload_n hx hb dL_lines_212 rfl (lv_at hl 0 rfl) ?_
        refine lv_iconst (v := 1) hx hb dL_lines_213 (by decide) ?_
        obtain ⟨r_11, hq_12, hf⟩ := ob1_use hf
        refine r_callV0 C h (cw_L_lines_X4_count_9 C.hts) (rest := [.int ((r_5 * r_7) + r_9)]) (ci := 4) (N := 5) (Cn := RX4) (T := TX4) (c_X4_count l G cI cC cZ X d0 b0 sl a0 a1 a2 a3 a4 a5 a6 a7 a8 p0 p1 h0 h1 nu va qu sc lo wt ch pl pa po pf ps ho hs (1 : Int32) r_11 hq_12) [0, 1, 2, 3, 4, 5, 6, 7, 8, 9, 10, 11, 12] rfl rfl rfl 0 rfl rfl hl.1 rfl (Nat.le_of_ble_eq_true rfl) ⟨Nat.le_of_ble_eq_true rfl, Nat.le_of_ble_eq_true rfl⟩ rfl dL_lines_214 (fun H locs h => ?_)
        refine lv_icmp_ne (tgt := 224) hx hb dL_lines_217 (by decide) (fun hc => ?_) (fun hc => ?_)
        · replace hf := it_f hf hc
          exact cut_224 _ _ _ h (lv_sub hl [] rfl) hf
        · replace hf := it_t hf hc
          refine lv_iconst (v := 1) hx hb dL_lines_220 (by decide) ?_
          refine lv_goto (tgt := 225) hx hb dL_lines_221 (by decide) ?_
          cases hf
          exact r_zret C h hr hlocks rfl dL_lines_225
  have cut_49 : ∀ (n : Nat) (x1 : Int32) (x2 : Int32) (x3 : Int32) (H : Heap) (locs : List Loc) (ls : Array Slot), Hx s G A (wLDc cI cC d0 b0 sl a0 a1 a2 a3 a4 a5 a6 a7 a8 p0 p1 h0 h1 nu va qu sc lo wt ch pl pa po pf ps ho hs) H locs → lv_has ls 5 [(0, .ref d0), (1, .int x1), (2, .int x2), (3, .int x3)] → fL_lines_49 n nu qu pl hs x1 x2 x3 = some (rv) → W p l e rm_L_lines s m args below meth c H locs 0 0 (MQ below (Qx G (some (.int rv)) (wLDc cI cC d0 b0 sl a0 a1 a2 a3 a4 a5 a6 a7 a8 p0 p1 h0 h1 nu va qu sc lo wt ch pl pa po pf ps ho hs) A) args s 0 0 A) (F0 m 49 ls []) := by
    intro n
    induction n with
    | zero =>
      intro x1 x2 x3 H locs ls h hl hf
      exact (nn_some _ hf).elim
    | succ n ih =>
      intro x1 x2 x3 H locs ls h hl hf
      have hf : fL_lines_49_b (fL_lines_49 n) nu qu pl hs x1 x2 x3 = some (rv) := hf
      unfold fL_lines_49_b at hf
      refine lv_iload_n hx hb dL_lines_49 rfl (lv_at hl 3 rfl) ?_
      refine lv_aload_n hx hb dL_lines_50 rfl (lv_at hl 0 rfl) ?_
      refine lv_iconst (v := 2) hx hb dL_lines_51 (by decide) ?_
      obtain ⟨r_1, hq_2, hf⟩ := ob1_use hf
      refine r_callV0 C h (cw_L_lines_X4_count_9 C.hts) (rest := [.int x3]) (ci := 4) (N := 5) (Cn := RX4) (T := TX4) (c_X4_count l G cI cC cZ X d0 b0 sl a0 a1 a2 a3 a4 a5 a6 a7 a8 p0 p1 h0 h1 nu va qu sc lo wt ch pl pa po pf ps ho hs (2 : Int32) r_1 hq_2) [0, 1, 2, 3, 4, 5, 6, 7, 8, 9, 10, 11, 12] rfl rfl rfl 0 rfl rfl hl.1 rfl (Nat.le_of_ble_eq_true rfl) ⟨Nat.le_of_ble_eq_true rfl, Nat.le_of_ble_eq_true rfl⟩ rfl dL_lines_52 (fun H locs h => ?_)
      refine lv_icmp_ge (tgt := 174) hx hb dL_lines_55 (by decide) (fun hc => ?_) (fun hc => ?_)
      · replace hf := it_t hf hc
        exact cut_174 x1 _ _ _ h (lv_sub hl [0, 1] rfl) hf
      · replace hf := it_f hf hc
        refine lv_iload_n hx hb dL_lines_58 rfl (lv_at hl 1 rfl) ?_
        refine lv_if_eq (tgt := 174) hx hb dL_lines_59 (by decide) (fun hc => ?_) (fun hc => ?_)
        · replace hf := it_t hf hc
          exact cut_174 x1 _ _ _ h (lv_sub hl [0, 1] rfl) hf
        · replace hf := it_f hf hc
          refine lv_aload_n hx hb dL_lines_62 rfl (lv_at hl 0 rfl) ?_
          refine lv_iload_n hx hb dL_lines_63 rfl (lv_at hl 3 rfl) ?_
          refine lv_iconst (v := 0) hx hb dL_lines_64 (by decide) ?_
          obtain ⟨r_3, hq_4, hf⟩ := ob1_use hf
          refine r_callV0 C h (cw_L_lines_X4_waiting_15 C.hts) (rest := []) (ci := 4) (N := 5) (Cn := RX4) (T := TX4) (c_X4_waiting l G cI cC cZ X d0 b0 sl h0 p0 a0 a1 a2 a3 a4 a5 a6 a7 a8 nu va qu sc lo wt x3 (0 : Int32) r_3 hq_4) [0, 1, 2, 3, 4, 5, 6, 7, 8, 9] rfl rfl rfl 0 rfl rfl hl.1 rfl (Nat.le_of_ble_eq_true rfl) ⟨Nat.le_of_ble_eq_true rfl, Nat.le_of_ble_eq_true rfl⟩ rfl dL_lines_65 (fun H locs h => ?_)
          refine lv_aload_n hx hb dL_lines_68 rfl (lv_at hl 0 rfl) ?_
          refine lv_bipush (v := 19) hx hb dL_lines_69 (by decide) ?_
          obtain ⟨r_5, hq_6, hf⟩ := ob1_use hf
          refine r_callV0 C h (cw_L_lines_X4_count_9 C.hts) (rest := [.int r_3]) (ci := 4) (N := 5) (Cn := RX4) (T := TX4) (c_X4_count l G cI cC cZ X d0 b0 sl a0 a1 a2 a3 a4 a5 a6 a7 a8 p0 p1 h0 h1 nu va qu sc lo wt ch pl pa po pf ps ho hs (19 : Int32) r_5 hq_6) [0, 1, 2, 3, 4, 5, 6, 7, 8, 9, 10, 11, 12] rfl rfl rfl 0 rfl rfl hl.1 rfl (Nat.le_of_ble_eq_true rfl) ⟨Nat.le_of_ble_eq_true rfl, Nat.le_of_ble_eq_true rfl⟩ rfl dL_lines_71 (fun H locs h => ?_)
          refine lv_imul hx hb dL_lines_74 ?_
          refine lv_aload_n hx hb dL_lines_75 rfl (lv_at hl 0 rfl) ?_
          refine lv_iload_n hx hb dL_lines_76 rfl (lv_at hl 3 rfl) ?_
          refine lv_iconst (v := 1) hx hb dL_lines_77 (by decide) ?_
          obtain ⟨r_7, hq_8, hf⟩ := ob1_use hf
          refine r_callV0 C h (cw_L_lines_X4_waiting_15 C.hts) (rest := [.int (r_3 * r_5)]) (ci := 4) (N := 5) (Cn := RX4) (T := TX4) (c_X4_waiting l G cI cC cZ X d0 b0 sl h0 p0 a0 a1 a2 a3 a4 a5 a6 a7 a8 nu va qu sc lo wt x3 (1 : Int32) r_7 hq_8) [0, 1, 2, 3, 4, 5, 6, 7, 8, 9] rfl rfl rfl 0 rfl rfl hl.1 rfl (Nat.le_of_ble_eq_true rfl) ⟨Nat.le_of_ble_eq_true rfl, Nat.le_of_ble_eq_true rfl⟩ rfl dL_lines_78 (fun H locs h => ?_)
          refine lv_iadd hx hb dL_lines_81 ?_
          refine lv_topi (fun x4_9 ex4_9 => ?_)
          replace hf := nm_use hf ex4_9
          refine lv_istore (lv' := [(4, .int x4_9), (0, .ref d0), (1, .int x1), (2, .int x2), (3, .int x3)]) hx hb dL_lines_82 hl (by decide) rfl (fun ls hl => ?_)
          refine lv_iload hx hb dL_lines_84 (lv_at hl 0 rfl) ?_
          refine lv_iload_n hx hb dL_lines_86 rfl (lv_at hl 3 rfl) ?_
          refine lv_icmp_le (tgt := 163) hx hb dL_lines_87 (by decide) (fun hc => ?_) (fun hc => ?_)
          · replace hf := it_t hf hc
            refine lv_iconst (v := 0) hx hb dL_lines_163 (by decide) ?_
            refine lv_istore_n (lv' := [(1, .int 0), (4, .int x4_9), (0, .ref d0), (2, .int x2), (3, .int x3)]) hx hb dL_lines_164 rfl hl (by decide) rfl (fun ls hl => ?_)
            refine lv_iload hx hb dL_lines_165 (lv_at hl 1 rfl) ?_
            refine lv_istore_n (lv' := [(2, .int x4_9), (1, .int 0), (4, .int x4_9), (0, .ref d0), (3, .int x3)]) hx hb dL_lines_167 rfl hl (by decide) rfl (fun ls hl => ?_)
            obtain ⟨x3_10, ex3_10⟩ : ∃ y : Int32, y = x3 + 1 := ⟨_, rfl⟩
            replace hf := nm_use hf ex3_10
            refine lv_iinc (v := x3_10) (lv' := [(3, .int x3_10), (2, .int x4_9), (1, .int 0), (4, .int x4_9), (0, .ref d0)]) hx hb dL_lines_168 hl (k := 4) rfl (by rw [ex3_10]; rfl) (by decide) rfl (fun ls hl => ?_)
            refine lv_goto (tgt := 49) hx hb dL_lines_171 (by decide) ?_
            exact ih 0 x4_9 x3_10 _ _ _ h (lv_sub hl [4, 2, 1, 0] rfl) hf
          · replace hf := it_f hf hc
            refine lv_iload hx hb dL_lines_90 (lv_at hl 0 rfl) ?_
            refine lv_aload_n hx hb dL_lines_92 rfl (lv_at hl 1 rfl) ?_
            refine lv_iconst (v := 1) hx hb dL_lines_93 (by decide) ?_
            obtain ⟨r_11, hq_12, hf⟩ := ob1_use hf
            refine r_callV0 C h (cw_L_lines_X4_count_9 C.hts) (rest := [.int x4_9]) (ci := 4) (N := 5) (Cn := RX4) (T := TX4) (c_X4_count l G cI cC cZ X d0 b0 sl a0 a1 a2 a3 a4 a5 a6 a7 a8 p0 p1 h0 h1 nu va qu sc lo wt ch pl pa po pf ps ho hs (1 : Int32) r_11 hq_12) [0, 1, 2, 3, 4, 5, 6, 7, 8, 9, 10, 11, 12] rfl rfl rfl 0 rfl rfl hl.1 rfl (Nat.le_of_ble_eq_true rfl) ⟨Nat.le_of_ble_eq_true rfl, Nat.le_of_ble_eq_true rfl⟩ rfl dL_lines_94 (fun H locs h => ?_)
            refine lv_icmp_ge (tgt := 163) hx hb dL_lines_97 (by decide) (fun hc => ?_) (fun hc => ?_)
            · replace hf := it_t hf hc
              refine lv_iconst (v := 0) hx hb dL_lines_163 (by decide) ?_
              refine lv_istore_n (lv' := [(1, .int 0), (4, .int x4_9), (0, .ref d0), (2, .int x2), (3, .int x3)]) hx hb dL_lines_164 rfl hl (by decide) rfl (fun ls hl => ?_)
              refine lv_iload hx hb dL_lines_165 (lv_at hl 1 rfl) ?_
              refine lv_istore_n (lv' := [(2, .int x4_9), (1, .int 0), (4, .int x4_9), (0, .ref d0), (3, .int x3)]) hx hb dL_lines_167 rfl hl (by decide) rfl (fun ls hl => ?_)
              obtain ⟨x3_13, ex3_13⟩ : ∃ y : Int32, y = x3 + 1 := ⟨_, rfl⟩
              replace hf := nm_use hf ex3_13
              refine lv_iinc (v := x3_13) (lv' := [(3, .int x3_13), (2, .int x4_9), (1, .int 0), (4, .int x4_9), (0, .ref d0)]) hx hb dL_lines_168 hl (k := 4) rfl (by rw [ex3_13]; rfl) (by decide) rfl (fun ls hl => ?_)
              refine lv_goto (tgt := 49) hx hb dL_lines_171 (by decide) ?_
              exact ih 0 x4_9 x3_13 _ _ _ h (lv_sub hl [4, 2, 1, 0] rfl) hf
            · replace hf := it_f hf hc
              refine lv_aload_n hx hb dL_lines_100 rfl (lv_at hl 1 rfl) ?_
              refine lv_iload_n hx hb dL_lines_101 rfl (lv_at hl 4 rfl) ?_
              refine lv_iconst (v := 1) hx hb dL_lines_102 (by decide) ?_
              obtain ⟨r_14, hq_15, hf⟩ := ob1_use hf
              refine r_callV0 C h (cw_L_lines_X4_waiting_15 C.hts) (rest := []) (ci := 4) (N := 5) (Cn := RX4) (T := TX4) (c_X4_waiting l G cI cC cZ X d0 b0 sl h0 p0 a0 a1 a2 a3 a4 a5 a6 a7 a8 nu va qu sc lo wt x3 (1 : Int32) r_14 hq_15) [0, 1, 2, 3, 4, 5, 6, 7, 8, 9] rfl rfl rfl 0 rfl rfl hl.1 rfl (Nat.le_of_ble_eq_true rfl) ⟨Nat.le_of_ble_eq_true rfl, Nat.le_of_ble_eq_true rfl⟩ rfl dL_lines_103 (fun H locs h => ?_)
              refine lv_aload_n hx hb dL_lines_106 rfl (lv_at hl 1 rfl) ?_
              refine lv_bipush (v := 19) hx hb dL_lines_107 (by decide) ?_
              obtain ⟨r_16, hq_17, hf⟩ := ob1_use hf
              refine r_callV0 C h (cw_L_lines_X4_count_9 C.hts) (rest := [.int r_14]) (ci := 4) (N := 5) (Cn := RX4) (T := TX4) (c_X4_count l G cI cC cZ X d0 b0 sl a0 a1 a2 a3 a4 a5 a6 a7 a8 p0 p1 h0 h1 nu va qu sc lo wt ch pl pa po pf ps ho hs (19 : Int32) r_16 hq_17) [0, 1, 2, 3, 4, 5, 6, 7, 8, 9, 10, 11, 12] rfl rfl rfl 0 rfl rfl hl.1 rfl (Nat.le_of_ble_eq_true rfl) ⟨Nat.le_of_ble_eq_true rfl, Nat.le_of_ble_eq_true rfl⟩ rfl dL_lines_109 (fun H locs h => ?_)
              refine lv_icmp_ge (tgt := 163) hx hb dL_lines_112 (by decide) (fun hc => ?_) (fun hc => ?_)
              · replace hf := it_t hf hc
                refine lv_iconst (v := 0) hx hb dL_lines_163 (by decide) ?_
                refine lv_istore_n (lv' := [(1, .int 0), (4, .int x4_9), (0, .ref d0), (2, .int x2), (3, .int x3)]) hx hb dL_lines_164 rfl hl (by decide) rfl (fun ls hl => ?_)
                refine lv_iload hx hb dL_lines_165 (lv_at hl 1 rfl) ?_
                refine lv_istore_n (lv' := [(2, .int x4_9), (1, .int 0), (4, .int x4_9), (0, .ref d0), (3, .int x3)]) hx hb dL_lines_167 rfl hl (by decide) rfl (fun ls hl => ?_)
                obtain ⟨x3_18, ex3_18⟩ : ∃ y : Int32, y = x3 + 1 := ⟨_, rfl⟩
                replace hf := nm_use hf ex3_18
                refine lv_iinc (v := x3_18) (lv' := [(3, .int x3_18), (2, .int x4_9), (1, .int 0), (4, .int x4_9), (0, .ref d0)]) hx hb dL_lines_168 hl (k := 4) rfl (by rw [ex3_18]; rfl) (by decide) rfl (fun ls hl => ?_)
                refine lv_goto (tgt := 49) hx hb dL_lines_171 (by decide) ?_
                exact ih 0 x4_9 x3_18 _ _ _ h (lv_sub hl [4, 2, 1, 0] rfl) hf
              · replace hf := it_f hf hc
                refine lv_aload_n hx hb dL_lines_115 rfl (lv_at hl 1 rfl) ?_
                refine lv_iload_n hx hb dL_lines_116 rfl (lv_at hl 4 rfl) ?_
                refine lv_iconst (v := 3) hx hb dL_lines_117 (by decide) ?_
                obtain ⟨r_19, hq_20, hf⟩ := ob1_use hf
                refine r_callV0 C h (cw_L_lines_X4_waiting_15 C.hts) (rest := []) (ci := 4) (N := 5) (Cn := RX4) (T := TX4) (c_X4_waiting l G cI cC cZ X d0 b0 sl h0 p0 a0 a1 a2 a3 a4 a5 a6 a7 a8 nu va qu sc lo wt x3 (3 : Int32) r_19 hq_20) [0, 1, 2, 3, 4, 5, 6, 7, 8, 9] rfl rfl rfl 0 rfl rfl hl.1 rfl (Nat.le_of_ble_eq_true rfl) ⟨Nat.le_of_ble_eq_true rfl, Nat.le_of_ble_eq_true rfl⟩ rfl dL_lines_118 (fun H locs h => ?_)
                refine lv_iconst (v := 2) hx hb dL_lines_121 (by decide) ?_
                refine lv_icmp_ge (tgt := 163) hx hb dL_lines_122 (by decide) (fun hc => ?_) (fun hc => ?_)
                · replace hf := it_t hf hc
                  refine lv_iconst (v := 0) hx hb dL_lines_163 (by decide) ?_
                  refine lv_istore_n (lv' := [(1, .int 0), (4, .int x4_9), (0, .ref d0), (2, .int x2), (3, .int x3)]) hx hb dL_lines_164 rfl hl (by decide) rfl (fun ls hl => ?_)
                  refine lv_iload hx hb dL_lines_165 (lv_at hl 1 rfl) ?_
                  refine lv_istore_n (lv' := [(2, .int x4_9), (1, .int 0), (4, .int x4_9), (0, .ref d0), (3, .int x3)]) hx hb dL_lines_167 rfl hl (by decide) rfl (fun ls hl => ?_)
                  obtain ⟨x3_21, ex3_21⟩ : ∃ y : Int32, y = x3 + 1 := ⟨_, rfl⟩
                  replace hf := nm_use hf ex3_21
                  refine lv_iinc (v := x3_21) (lv' := [(3, .int x3_21), (2, .int x4_9), (1, .int 0), (4, .int x4_9), (0, .ref d0)]) hx hb dL_lines_168 hl (k := 4) rfl (by rw [ex3_21]; rfl) (by decide) rfl (fun ls hl => ?_)
                  refine lv_goto (tgt := 49) hx hb dL_lines_171 (by decide) ?_
                  exact ih 0 x4_9 x3_21 _ _ _ h (lv_sub hl [4, 2, 1, 0] rfl) hf
                · replace hf := it_f hf hc
                  refine lv_iload_n hx hb dL_lines_125 rfl (lv_at hl 4 rfl) ?_
                  refine lv_if_eq (tgt := 138) hx hb dL_lines_126 (by decide) (fun hc => ?_) (fun hc => ?_)
                  · replace hf := it_t hf hc
                    refine lv_aload_n hx hb dL_lines_138 rfl (lv_at hl 1 rfl) ?_
                    refine lv_iload_n hx hb dL_lines_139 rfl (lv_at hl 4 rfl) ?_
                    refine lv_iconst (v := 2) hx hb dL_lines_140 (by decide) ?_
                    obtain ⟨r_22, hq_23, hf⟩ := ob1_use hf
                    refine r_callV0 C h (cw_L_lines_X4_waiting_15 C.hts) (rest := []) (ci := 4) (N := 5) (Cn := RX4) (T := TX4) (c_X4_waiting l G cI cC cZ X d0 b0 sl h0 p0 a0 a1 a2 a3 a4 a5 a6 a7 a8 nu va qu sc lo wt x3 (2 : Int32) r_22 hq_23) [0, 1, 2, 3, 4, 5, 6, 7, 8, 9] rfl rfl rfl 0 rfl rfl hl.1 rfl (Nat.le_of_ble_eq_true rfl) ⟨Nat.le_of_ble_eq_true rfl, Nat.le_of_ble_eq_true rfl⟩ rfl dL_lines_141 (fun H locs h => ?_)
                    refine lv_if_lt (tgt := 163) hx hb dL_lines_144 (by decide) (fun hc => ?_) (fun hc => ?_)
                    · replace hf := it_t hf hc
                      refine lv_iconst (v := 0) hx hb dL_lines_163 (by decide) ?_
                      refine lv_istore_n (lv' := [(1, .int 0), (4, .int x4_9), (0, .ref d0), (2, .int x2), (3, .int x3)]) hx hb dL_lines_164 rfl hl (by decide) rfl (fun ls hl => ?_)
                      refine lv_iload hx hb dL_lines_165 (lv_at hl 1 rfl) ?_
                      refine lv_istore_n (lv' := [(2, .int x4_9), (1, .int 0), (4, .int x4_9), (0, .ref d0), (3, .int x3)]) hx hb dL_lines_167 rfl hl (by decide) rfl (fun ls hl => ?_)
                      obtain ⟨x3_24, ex3_24⟩ : ∃ y : Int32, y = x3 + 1 := ⟨_, rfl⟩
                      replace hf := nm_use hf ex3_24
                      refine lv_iinc (v := x3_24) (lv' := [(3, .int x3_24), (2, .int x4_9), (1, .int 0), (4, .int x4_9), (0, .ref d0)]) hx hb dL_lines_168 hl (k := 4) rfl (by rw [ex3_24]; rfl) (by decide) rfl (fun ls hl => ?_)
                      refine lv_goto (tgt := 49) hx hb dL_lines_171 (by decide) ?_
                      exact ih 0 x4_9 x3_24 _ _ _ h (lv_sub hl [4, 2, 1, 0] rfl) hf
                    · replace hf := it_f hf hc
                      refine lv_aload_n hx hb dL_lines_147 rfl (lv_at hl 1 rfl) ?_
                      refine lv_iload_n hx hb dL_lines_148 rfl (lv_at hl 4 rfl) ?_
                      refine lv_iconst (v := 2) hx hb dL_lines_149 (by decide) ?_
                      obtain ⟨r_25, hq_26, hf⟩ := ob1_use hf
                      refine r_callV0 C h (cw_L_lines_X4_waiting_15 C.hts) (rest := []) (ci := 4) (N := 5) (Cn := RX4) (T := TX4) (c_X4_waiting l G cI cC cZ X d0 b0 sl h0 p0 a0 a1 a2 a3 a4 a5 a6 a7 a8 nu va qu sc lo wt x3 (2 : Int32) r_25 hq_26) [0, 1, 2, 3, 4, 5, 6, 7, 8, 9] rfl rfl rfl 0 rfl rfl hl.1 rfl (Nat.le_of_ble_eq_true rfl) ⟨Nat.le_of_ble_eq_true rfl, Nat.le_of_ble_eq_true rfl⟩ rfl dL_lines_150 (fun H locs h => ?_)
                      refine lv_sipush (v := 256) hx hb dL_lines_153 (by decide) ?_
                      refine lv_icmp_ge (tgt := 163) hx hb dL_lines_156 (by decide) (fun hc => ?_) (fun hc => ?_)
                      · replace hf := it_t hf hc
                        refine lv_iconst (v := 0) hx hb dL_lines_163 (by decide) ?_
                        refine lv_istore_n (lv' := [(1, .int 0), (4, .int x4_9), (0, .ref d0), (2, .int x2), (3, .int x3)]) hx hb dL_lines_164 rfl hl (by decide) rfl (fun ls hl => ?_)
                        refine lv_iload hx hb dL_lines_165 (lv_at hl 1 rfl) ?_
                        refine lv_istore_n (lv' := [(2, .int x4_9), (1, .int 0), (4, .int x4_9), (0, .ref d0), (3, .int x3)]) hx hb dL_lines_167 rfl hl (by decide) rfl (fun ls hl => ?_)
                        obtain ⟨x3_27, ex3_27⟩ : ∃ y : Int32, y = x3 + 1 := ⟨_, rfl⟩
                        replace hf := nm_use hf ex3_27
                        refine lv_iinc (v := x3_27) (lv' := [(3, .int x3_27), (2, .int x4_9), (1, .int 0), (4, .int x4_9), (0, .ref d0)]) hx hb dL_lines_168 hl (k := 4) rfl (by rw [ex3_27]; rfl) (by decide) rfl (fun ls hl => ?_)
                        refine lv_goto (tgt := 49) hx hb dL_lines_171 (by decide) ?_
                        exact ih 0 x4_9 x3_27 _ _ _ h (lv_sub hl [4, 2, 1, 0] rfl) hf
                      · replace hf := it_f hf hc
                        refine lv_iconst (v := 1) hx hb dL_lines_159 (by decide) ?_
                        refine lv_goto (tgt := 164) hx hb dL_lines_160 (by decide) ?_
                        refine lv_istore_n (lv' := [(1, .int 1), (4, .int x4_9), (0, .ref d0), (2, .int x2), (3, .int x3)]) hx hb dL_lines_164 rfl hl (by decide) rfl (fun ls hl => ?_)
                        refine lv_iload hx hb dL_lines_165 (lv_at hl 1 rfl) ?_
                        refine lv_istore_n (lv' := [(2, .int x4_9), (1, .int 1), (4, .int x4_9), (0, .ref d0), (3, .int x3)]) hx hb dL_lines_167 rfl hl (by decide) rfl (fun ls hl => ?_)
                        obtain ⟨x3_28, ex3_28⟩ : ∃ y : Int32, y = x3 + 1 := ⟨_, rfl⟩
                        replace hf := nm_use hf ex3_28
                        refine lv_iinc (v := x3_28) (lv' := [(3, .int x3_28), (2, .int x4_9), (1, .int 1), (4, .int x4_9), (0, .ref d0)]) hx hb dL_lines_168 hl (k := 4) rfl (by rw [ex3_28]; rfl) (by decide) rfl (fun ls hl => ?_)
                        refine lv_goto (tgt := 49) hx hb dL_lines_171 (by decide) ?_
                        exact ih 1 x4_9 x3_28 _ _ _ h (lv_sub hl [4, 2, 1, 0] rfl) hf
                  · replace hf := it_f hf hc
                    refine lv_aload_n hx hb dL_lines_129 rfl (lv_at hl 1 rfl) ?_
                    refine lv_iload_n hx hb dL_lines_130 rfl (lv_at hl 4 rfl) ?_
                    refine lv_iconst (v := 3) hx hb dL_lines_131 (by decide) ?_
                    obtain ⟨r_29, hq_30, hf⟩ := ob1_use hf
                    refine r_callV0 C h (cw_L_lines_X4_waiting_15 C.hts) (rest := []) (ci := 4) (N := 5) (Cn := RX4) (T := TX4) (c_X4_waiting l G cI cC cZ X d0 b0 sl h0 p0 a0 a1 a2 a3 a4 a5 a6 a7 a8 nu va qu sc lo wt x3 (3 : Int32) r_29 hq_30) [0, 1, 2, 3, 4, 5, 6, 7, 8, 9] rfl rfl rfl 0 rfl rfl hl.1 rfl (Nat.le_of_ble_eq_true rfl) ⟨Nat.le_of_ble_eq_true rfl, Nat.le_of_ble_eq_true rfl⟩ rfl dL_lines_132 (fun H locs h => ?_)
                    refine lv_if_ne (tgt := 163) hx hb dL_lines_135 (by decide) (fun hc => ?_) (fun hc => ?_)
                    · replace hf := it_f hf hc
                      refine lv_iconst (v := 0) hx hb dL_lines_163 (by decide) ?_
                      refine lv_istore_n (lv' := [(1, .int 0), (4, .int x4_9), (0, .ref d0), (2, .int x2), (3, .int x3)]) hx hb dL_lines_164 rfl hl (by decide) rfl (fun ls hl => ?_)
                      refine lv_iload hx hb dL_lines_165 (lv_at hl 1 rfl) ?_
                      refine lv_istore_n (lv' := [(2, .int x4_9), (1, .int 0), (4, .int x4_9), (0, .ref d0), (3, .int x3)]) hx hb dL_lines_167 rfl hl (by decide) rfl (fun ls hl => ?_)
                      obtain ⟨x3_31, ex3_31⟩ : ∃ y : Int32, y = x3 + 1 := ⟨_, rfl⟩
                      replace hf := nm_use hf ex3_31
                      refine lv_iinc (v := x3_31) (lv' := [(3, .int x3_31), (2, .int x4_9), (1, .int 0), (4, .int x4_9), (0, .ref d0)]) hx hb dL_lines_168 hl (k := 4) rfl (by rw [ex3_31]; rfl) (by decide) rfl (fun ls hl => ?_)
                      refine lv_goto (tgt := 49) hx hb dL_lines_171 (by decide) ?_
                      exact ih 0 x4_9 x3_31 _ _ _ h (lv_sub hl [4, 2, 1, 0] rfl) hf
                    · replace hf := it_t hf hc
                      refine lv_aload_n hx hb dL_lines_138 rfl (lv_at hl 1 rfl) ?_
                      refine lv_iload_n hx hb dL_lines_139 rfl (lv_at hl 4 rfl) ?_
                      refine lv_iconst (v := 2) hx hb dL_lines_140 (by decide) ?_
                      obtain ⟨r_32, hq_33, hf⟩ := ob1_use hf
                      refine r_callV0 C h (cw_L_lines_X4_waiting_15 C.hts) (rest := []) (ci := 4) (N := 5) (Cn := RX4) (T := TX4) (c_X4_waiting l G cI cC cZ X d0 b0 sl h0 p0 a0 a1 a2 a3 a4 a5 a6 a7 a8 nu va qu sc lo wt x3 (2 : Int32) r_32 hq_33) [0, 1, 2, 3, 4, 5, 6, 7, 8, 9] rfl rfl rfl 0 rfl rfl hl.1 rfl (Nat.le_of_ble_eq_true rfl) ⟨Nat.le_of_ble_eq_true rfl, Nat.le_of_ble_eq_true rfl⟩ rfl dL_lines_141 (fun H locs h => ?_)
                      refine lv_if_lt (tgt := 163) hx hb dL_lines_144 (by decide) (fun hc => ?_) (fun hc => ?_)
                      · replace hf := it_t hf hc
                        refine lv_iconst (v := 0) hx hb dL_lines_163 (by decide) ?_
                        refine lv_istore_n (lv' := [(1, .int 0), (4, .int x4_9), (0, .ref d0), (2, .int x2), (3, .int x3)]) hx hb dL_lines_164 rfl hl (by decide) rfl (fun ls hl => ?_)
                        refine lv_iload hx hb dL_lines_165 (lv_at hl 1 rfl) ?_
                        refine lv_istore_n (lv' := [(2, .int x4_9), (1, .int 0), (4, .int x4_9), (0, .ref d0), (3, .int x3)]) hx hb dL_lines_167 rfl hl (by decide) rfl (fun ls hl => ?_)
                        obtain ⟨x3_34, ex3_34⟩ : ∃ y : Int32, y = x3 + 1 := ⟨_, rfl⟩
                        replace hf := nm_use hf ex3_34
                        refine lv_iinc (v := x3_34) (lv' := [(3, .int x3_34), (2, .int x4_9), (1, .int 0), (4, .int x4_9), (0, .ref d0)]) hx hb dL_lines_168 hl (k := 4) rfl (by rw [ex3_34]; rfl) (by decide) rfl (fun ls hl => ?_)
                        refine lv_goto (tgt := 49) hx hb dL_lines_171 (by decide) ?_
                        exact ih 0 x4_9 x3_34 _ _ _ h (lv_sub hl [4, 2, 1, 0] rfl) hf
                      · replace hf := it_f hf hc
                        refine lv_aload_n hx hb dL_lines_147 rfl (lv_at hl 1 rfl) ?_
                        refine lv_iload_n hx hb dL_lines_148 rfl (lv_at hl 4 rfl) ?_
                        refine lv_iconst (v := 2) hx hb dL_lines_149 (by decide) ?_
                        obtain ⟨r_35, hq_36, hf⟩ := ob1_use hf
                        refine r_callV0 C h (cw_L_lines_X4_waiting_15 C.hts) (rest := []) (ci := 4) (N := 5) (Cn := RX4) (T := TX4) (c_X4_waiting l G cI cC cZ X d0 b0 sl h0 p0 a0 a1 a2 a3 a4 a5 a6 a7 a8 nu va qu sc lo wt x3 (2 : Int32) r_35 hq_36) [0, 1, 2, 3, 4, 5, 6, 7, 8, 9] rfl rfl rfl 0 rfl rfl hl.1 rfl (Nat.le_of_ble_eq_true rfl) ⟨Nat.le_of_ble_eq_true rfl, Nat.le_of_ble_eq_true rfl⟩ rfl dL_lines_150 (fun H locs h => ?_)
                        refine lv_sipush (v := 256) hx hb dL_lines_153 (by decide) ?_
                        refine lv_icmp_ge (tgt := 163) hx hb dL_lines_156 (by decide) (fun hc => ?_) (fun hc => ?_)
                        · replace hf := it_t hf hc
                          refine lv_iconst (v := 0) hx hb dL_lines_163 (by decide) ?_
                          refine lv_istore_n (lv' := [(1, .int 0), (4, .int x4_9), (0, .ref d0), (2, .int x2), (3, .int x3)]) hx hb dL_lines_164 rfl hl (by decide) rfl (fun ls hl => ?_)
                          refine lv_iload hx hb dL_lines_165 (lv_at hl 1 rfl) ?_
                          refine lv_istore_n (lv' := [(2, .int x4_9), (1, .int 0), (4, .int x4_9), (0, .ref d0), (3, .int x3)]) hx hb dL_lines_167 rfl hl (by decide) rfl (fun ls hl => ?_)
                          obtain ⟨x3_37, ex3_37⟩ : ∃ y : Int32, y = x3 + 1 := ⟨_, rfl⟩
                          replace hf := nm_use hf ex3_37
                          refine lv_iinc (v := x3_37) (lv' := [(3, .int x3_37), (2, .int x4_9), (1, .int 0), (4, .int x4_9), (0, .ref d0)]) hx hb dL_lines_168 hl (k := 4) rfl (by rw [ex3_37]; rfl) (by decide) rfl (fun ls hl => ?_)
                          refine lv_goto (tgt := 49) hx hb dL_lines_171 (by decide) ?_
                          exact ih 0 x4_9 x3_37 _ _ _ h (lv_sub hl [4, 2, 1, 0] rfl) hf
                        · replace hf := it_f hf hc
                          refine lv_iconst (v := 1) hx hb dL_lines_159 (by decide) ?_
                          refine lv_goto (tgt := 164) hx hb dL_lines_160 (by decide) ?_
                          refine lv_istore_n (lv' := [(1, .int 1), (4, .int x4_9), (0, .ref d0), (2, .int x2), (3, .int x3)]) hx hb dL_lines_164 rfl hl (by decide) rfl (fun ls hl => ?_)
                          refine lv_iload hx hb dL_lines_165 (lv_at hl 1 rfl) ?_
                          refine lv_istore_n (lv' := [(2, .int x4_9), (1, .int 1), (4, .int x4_9), (0, .ref d0), (3, .int x3)]) hx hb dL_lines_167 rfl hl (by decide) rfl (fun ls hl => ?_)
                          obtain ⟨x3_38, ex3_38⟩ : ∃ y : Int32, y = x3 + 1 := ⟨_, rfl⟩
                          replace hf := nm_use hf ex3_38
                          refine lv_iinc (v := x3_38) (lv' := [(3, .int x3_38), (2, .int x4_9), (1, .int 1), (4, .int x4_9), (0, .ref d0)]) hx hb dL_lines_168 hl (k := 4) rfl (by rw [ex3_38]; rfl) (by decide) rfl (fun ls hl => ?_)
                          refine lv_goto (tgt := 49) hx hb dL_lines_171 (by decide) ?_
                          exact ih 1 x4_9 x3_38 _ _ _ h (lv_sub hl [4, 2, 1, 0] rfl) hf
  have cut_45 : ∀ (x1 : Int32) (H : Heap) (locs : List Loc) (ls : Array Slot), Hx s G A (wLDc cI cC d0 b0 sl a0 a1 a2 a3 a4 a5 a6 a7 a8 p0 p1 h0 h1 nu va qu sc lo wt ch pl pa po pf ps ho hs) H locs → lv_has ls 5 [(0, .ref d0), (1, .int x1)] → fL_lines_45 nu qu pl hs x1 = some (rv) → W p l e rm_L_lines s m args below meth c H locs 0 0 (MQ below (Qx G (some (.int rv)) (wLDc cI cC d0 b0 sl a0 a1 a2 a3 a4 a5 a6 a7 a8 p0 p1 h0 h1 nu va qu sc lo wt ch pl pa po pf ps ho hs) A) args s 0 0 A) (F0 m 45 ls []) := by
    intro x1 H locs ls h hl hf
    unfold fL_lines_45 at hf
    refine lv_iconst (v := (-1)) hx hb dL_lines_45 (by decide) ?_
    refine lv_topi (fun x2_1 ex2_1 => ?_)
    replace hf := nm_use hf ex2_1
    refine lv_istore_n (lv' := [(2, .int x2_1), (0, .ref d0), (1, .int x1)]) hx hb dL_lines_46 rfl hl (by decide) rfl (fun ls hl => ?_)
    refine lv_iconst (v := 0) hx hb dL_lines_47 (by decide) ?_
    refine lv_istore_n (lv' := [(3, .int 0), (2, .int x2_1), (0, .ref d0), (1, .int x1)]) hx hb dL_lines_48 rfl hl (by decide) rfl (fun ls hl => ?_)
    exact cut_49 KF x1 x2_1 0 _ _ _ h (lv_sub hl [2, 3, 1, 0] rfl) hf
  have cut_43 : ∀ (H : Heap) (locs : List Loc) (ls : Array Slot), Hx s G A (wLDc cI cC d0 b0 sl a0 a1 a2 a3 a4 a5 a6 a7 a8 p0 p1 h0 h1 nu va qu sc lo wt ch pl pa po pf ps ho hs) H locs → lv_has ls 5 [(0, .ref d0)] → fL_lines_43 nu qu pl hs = some (rv) → W p l e rm_L_lines s m args below meth c H locs 0 0 (MQ below (Qx G (some (.int rv)) (wLDc cI cC d0 b0 sl a0 a1 a2 a3 a4 a5 a6 a7 a8 p0 p1 h0 h1 nu va qu sc lo wt ch pl pa po pf ps ho hs) A) args s 0 0 A) (F0 m 43 ls []) := by
    intro H locs ls h hl hf
    unfold fL_lines_43 at hf
    refine lv_iconst (v := 0) hx hb dL_lines_43 (by decide) ?_
    refine lv_istore_n (lv' := [(1, .int 0), (0, .ref d0)]) hx hb dL_lines_44 rfl hl (by decide) rfl (fun ls hl => ?_)
    exact cut_45 0 _ _ _ h (lv_sub hl [1, 0] rfl) hf
  unfold fL_lines at hf
  refine lv_aload_n hx hb dL_lines_0 rfl (lv_at hl 0 rfl) ?_
  refine lv_iconst (v := 1) hx hb dL_lines_1 (by decide) ?_
  obtain ⟨r_1, hq_2, hf⟩ := ob1_use hf
  refine r_callV0 C h (cw_L_lines_X4_count_9 C.hts) (rest := []) (ci := 4) (N := 5) (Cn := RX4) (T := TX4) (c_X4_count l G cI cC cZ X d0 b0 sl a0 a1 a2 a3 a4 a5 a6 a7 a8 p0 p1 h0 h1 nu va qu sc lo wt ch pl pa po pf ps ho hs (1 : Int32) r_1 hq_2) [0, 1, 2, 3, 4, 5, 6, 7, 8, 9, 10, 11, 12] rfl rfl rfl 0 rfl rfl hl.1 rfl (Nat.le_of_ble_eq_true rfl) ⟨Nat.le_of_ble_eq_true rfl, Nat.le_of_ble_eq_true rfl⟩ rfl dL_lines_2 (fun H locs h => ?_)
  refine lv_aload_n hx hb dL_lines_5 rfl (lv_at hl 0 rfl) ?_
  refine lv_iconst (v := 2) hx hb dL_lines_6 (by decide) ?_
  obtain ⟨r_3, hq_4, hf⟩ := ob1_use hf
  refine r_callV0 C h (cw_L_lines_X4_count_9 C.hts) (rest := [.int r_1]) (ci := 4) (N := 5) (Cn := RX4) (T := TX4) (c_X4_count l G cI cC cZ X d0 b0 sl a0 a1 a2 a3 a4 a5 a6 a7 a8 p0 p1 h0 h1 nu va qu sc lo wt ch pl pa po pf ps ho hs (2 : Int32) r_3 hq_4) [0, 1, 2, 3, 4, 5, 6, 7, 8, 9, 10, 11, 12] rfl rfl rfl 0 rfl rfl hl.1 rfl (Nat.le_of_ble_eq_true rfl) ⟨Nat.le_of_ble_eq_true rfl, Nat.le_of_ble_eq_true rfl⟩ rfl dL_lines_7 (fun H locs h => ?_)
  refine lv_aload_n hx hb dL_lines_10 rfl (lv_at hl 0 rfl) ?_
  refine lv_iconst (v := 3) hx hb dL_lines_11 (by decide) ?_
  obtain ⟨r_5, hq_6, hf⟩ := ob1_use hf
  refine r_callV0 C h (cw_L_lines_X4_count_9 C.hts) (rest := [.int r_3, .int r_1]) (ci := 4) (N := 5) (Cn := RX4) (T := TX4) (c_X4_count l G cI cC cZ X d0 b0 sl a0 a1 a2 a3 a4 a5 a6 a7 a8 p0 p1 h0 h1 nu va qu sc lo wt ch pl pa po pf ps ho hs (3 : Int32) r_5 hq_6) [0, 1, 2, 3, 4, 5, 6, 7, 8, 9, 10, 11, 12] rfl rfl rfl 0 rfl rfl hl.1 rfl (Nat.le_of_ble_eq_true rfl) ⟨Nat.le_of_ble_eq_true rfl, Nat.le_of_ble_eq_true rfl⟩ rfl dL_lines_12 (fun H locs h => ?_)
  refine lv_iadd hx hb dL_lines_15 ?_
  refine lv_aload_n hx hb dL_lines_16 rfl (lv_at hl 0 rfl) ?_
  refine lv_iconst (v := 4) hx hb dL_lines_17 (by decide) ?_
  obtain ⟨r_7, hq_8, hf⟩ := ob1_use hf
  refine r_callV0 C h (cw_L_lines_X4_count_9 C.hts) (rest := [.int (r_3 + r_5), .int r_1]) (ci := 4) (N := 5) (Cn := RX4) (T := TX4) (c_X4_count l G cI cC cZ X d0 b0 sl a0 a1 a2 a3 a4 a5 a6 a7 a8 p0 p1 h0 h1 nu va qu sc lo wt ch pl pa po pf ps ho hs (4 : Int32) r_7 hq_8) [0, 1, 2, 3, 4, 5, 6, 7, 8, 9, 10, 11, 12] rfl rfl rfl 0 rfl rfl hl.1 rfl (Nat.le_of_ble_eq_true rfl) ⟨Nat.le_of_ble_eq_true rfl, Nat.le_of_ble_eq_true rfl⟩ rfl dL_lines_18 (fun H locs h => ?_)
  refine lv_iadd hx hb dL_lines_21 ?_
  refine lv_icmp_ne (tgt := 43) hx hb dL_lines_22 (by decide) (fun hc => ?_) (fun hc => ?_)
  · replace hf := it_f hf hc
    exact cut_43 _ _ _ h (lv_sub hl [0] rfl) hf
  · replace hf := it_t hf hc
    refine lv_aload_n hx hb dL_lines_25 rfl (lv_at hl 0 rfl) ?_
    refine lv_iconst (v := 2) hx hb dL_lines_26 (by decide) ?_
    obtain ⟨r_9, hq_10, hf⟩ := ob1_use hf
    refine r_callV0 C h (cw_L_lines_X4_count_9 C.hts) (rest := []) (ci := 4) (N := 5) (Cn := RX4) (T := TX4) (c_X4_count l G cI cC cZ X d0 b0 sl a0 a1 a2 a3 a4 a5 a6 a7 a8 p0 p1 h0 h1 nu va qu sc lo wt ch pl pa po pf ps ho hs (2 : Int32) r_9 hq_10) [0, 1, 2, 3, 4, 5, 6, 7, 8, 9, 10, 11, 12] rfl rfl rfl 0 rfl rfl hl.1 rfl (Nat.le_of_ble_eq_true rfl) ⟨Nat.le_of_ble_eq_true rfl, Nat.le_of_ble_eq_true rfl⟩ rfl dL_lines_27 (fun H locs h => ?_)
    refine lv_aload_n hx hb dL_lines_30 rfl (lv_at hl 0 rfl) ?_
    refine lv_bipush (v := 18) hx hb dL_lines_31 (by decide) ?_
    obtain ⟨r_11, hq_12, hf⟩ := ob1_use hf
    refine r_callV0 C h (cw_L_lines_X4_count_9 C.hts) (rest := [.int r_9]) (ci := 4) (N := 5) (Cn := RX4) (T := TX4) (c_X4_count l G cI cC cZ X d0 b0 sl a0 a1 a2 a3 a4 a5 a6 a7 a8 p0 p1 h0 h1 nu va qu sc lo wt ch pl pa po pf ps ho hs (18 : Int32) r_11 hq_12) [0, 1, 2, 3, 4, 5, 6, 7, 8, 9, 10, 11, 12] rfl rfl rfl 0 rfl rfl hl.1 rfl (Nat.le_of_ble_eq_true rfl) ⟨Nat.le_of_ble_eq_true rfl, Nat.le_of_ble_eq_true rfl⟩ rfl dL_lines_33 (fun H locs h => ?_)
    refine lv_icmp_gt (tgt := 43) hx hb dL_lines_36 (by decide) (fun hc => ?_) (fun hc => ?_)
    · replace hf := it_t hf hc
      exact cut_43 _ _ _ h (lv_sub hl [0] rfl) hf
    · replace hf := it_f hf hc
      refine lv_iconst (v := 1) hx hb dL_lines_39 (by decide) ?_
      refine lv_goto (tgt := 44) hx hb dL_lines_40 (by decide) ?_
      refine lv_istore_n (lv' := [(1, .int 1), (0, .ref d0)]) hx hb dL_lines_44 rfl hl (by decide) rfl (fun ls hl => ?_)
      exact cut_45 1 _ _ _ h (lv_sub hl [1, 0] rfl) hf
