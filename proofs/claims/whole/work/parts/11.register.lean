/-! ===== ScaleHouse$Register ===== -/
def rgF (nm fr td : Nat → Int32) (name day q : Int32) : Nat → Nat → Int32 → Int32
  | 0, _, b => b
  | r + 1, i, b => rgF nm fr td name day q r (i + 1) (if nm i = name then (if q < td i then b else if day < fr i then b else if b = -1 then nI i else if fr i < fr b.toNatClampNeg then b else nI i) else b)

set_option maxHeartbeats 4000000 in
set_option maxRecDepth 100000 in
theorem g_init (l : Launch) (G : gG) (h0 N : Nat) (hN : N ≤ 100) : cM l yX6_init wsX6_init 1 20 (3) (300) G [.ref h0, .int (nI N)] ([(h0, .inr (6, [.null, .null, .null, .int 0]))]) (qV G (S := Nat × Nat × Nat) (fun _ => True) (fun u => [(h0, .inr (6, [.ref u.1, .ref u.2.1, .ref u.2.2, .int (nI 0)])), (u.1, .inl (G.2.2 1, N, .inl (fun _ => 0))), (u.2.1, .inl (G.2.2 1, N, .inl (fun _ => 0))), (u.2.2, .inl (G.2.2 1, N, .inl (fun _ => 0)))])) := by
  refine o_M (cc := cX6_init) (maxL := 2) (ret := none) (own := RX6) (by decide +kernel) rfl rfl (Nat.le_of_ble_eq_true rfl) ?_
  intro p e s m below meth c A ls H locs hA C h hr hlk hnm hl
  have hx := C.1.1.1
  have hb := C.1.1.2.1
  have hl : lv_has ls 2 [(0, .ref h0), (1, .int (nI N))] := hl
  have wd0 : Cond.methodLink RX6 3 objectInit ∈ wsX6_init := by decide +kernel
  have wd1 : Cond.instanceMethod objectInit ∈ wsX6_init := by decide +kernel
  have wd2 : Cond.code objectInit ⟨#[0xb1]⟩ 1 none ∈ wsX6_init := by decide +kernel
  have wd3 : Cond.fieldLink RX6 9 "ScaleHouse$Register" "size" "I" ∈ wsX6_init := by decide +kernel
  have hinX6 : ∀ w ∈ wsX60, w ∈ wsX6_init := by decide +kernel
  have wd4 : Cond.arrayClass .int ∈ wsX6_init := by decide +kernel
  have wd5 : Cond.fieldLink RX6 15 "ScaleHouse$Register" "names" "[I" ∈ wsX6_init := by decide +kernel
  have wd6 : Cond.fieldLink RX6 19 "ScaleHouse$Register" "froms" "[I" ∈ wsX6_init := by decide +kernel
  have wd7 : Cond.fieldLink RX6 22 "ScaleHouse$Register" "tolds" "[I" ∈ wsX6_init := by decide +kernel
  refine lv_aload_n hx hb dX6_init_0 rfl (lv_at hl 0 rfl) ?_
  refine r_objInit C wd0 wd1 wd2 hl.1 dX6_init_1 (Nat.le_of_ble_eq_true rfl) (Nat.le_of_ble_eq_true rfl) ?_
  refine lv_aload_n hx hb dX6_init_4 rfl (lv_at hl 0 rfl) ?_
  refine lv_iconst (v := 0) hx hb dX6_init_5 (by decide) ?_
  refine r_put C h 0 rfl (Cn := RX6) (T := TX6) (N := 4) rfl hinX6 tyX6 tyX6_ok nmX6 3 (by decide) (index := 9) (ref := "ScaleHouse$Register") wd3 rfl rfl (v := .int 0) rfl rfl (show 3 < 4 by decide) dX6_init_6 (fun H locs h => ?_)
  have h : gS G A s ([(h0, .inr (6, [.null, .null, .null, .int 0]))]) H locs := h
  refine lv_aload_n hx hb dX6_init_9 rfl (lv_at hl 0 rfl) ?_
  refine lv_iload_n hx hb dX6_init_10 rfl (lv_at hl 1 rfl) ?_
  refine r_newa C h (ty := .int) rfl 1 (cA := G.2.2 1) rfl (fun z => z) wd4 (n := (nI N)) (N' := N) (a0 := (N, .inl (fun _ => 0))) (fun _ => rfl) (nI_pos (by omega)) (nI_clamp (by omega)) (by show N * 4 ≤ _; omega) (by decide) (by show _ ≤ 300; omega) dX6_init_11 (fun q11 H h => ?_)
  have h : gS G A s ([(h0, .inr (6, [.null, .null, .null, .int 0])), (q11, .inl (G.2.2 1, N, .inl (fun _ => 0)))]) H locs := h
  refine r_putF C h 0 rfl (Cn := RX6) (T := TX6) (N := 4) rfl hinX6 tyX6 tyX6_ok nmX6 0 (by decide) (index := 15) (ref := "ScaleHouse$Register") wd5 rfl rfl hnm rfl (v := .ref q11) rfl rfl (show 0 < 4 by decide) dX6_init_13 (fun H locs h => ?_)
  have h : gS G A s ([(h0, .inr (6, [.ref q11, .null, .null, .int 0])), (q11, .inl (G.2.2 1, N, .inl (fun _ => 0)))]) H locs := h
  refine lv_aload_n hx hb dX6_init_16 rfl (lv_at hl 0 rfl) ?_
  refine lv_iload_n hx hb dX6_init_17 rfl (lv_at hl 1 rfl) ?_
  refine r_newa C h (ty := .int) rfl 1 (cA := G.2.2 1) rfl (fun z => z) wd4 (n := (nI N)) (N' := N) (a0 := (N, .inl (fun _ => 0))) (fun _ => rfl) (nI_pos (by omega)) (nI_clamp (by omega)) (by show N * 4 ≤ _; omega) (by decide) (by show _ ≤ 300; omega) dX6_init_18 (fun q18 H h => ?_)
  have h : gS G A s ([(h0, .inr (6, [.ref q11, .null, .null, .int 0])), (q11, .inl (G.2.2 1, N, .inl (fun _ => 0))), (q18, .inl (G.2.2 1, N, .inl (fun _ => 0)))]) H locs := h
  refine r_putF C h 0 rfl (Cn := RX6) (T := TX6) (N := 4) rfl hinX6 tyX6 tyX6_ok nmX6 1 (by decide) (index := 19) (ref := "ScaleHouse$Register") wd6 rfl rfl hnm rfl (v := .ref q18) rfl rfl (show 1 < 4 by decide) dX6_init_20 (fun H locs h => ?_)
  have h : gS G A s ([(h0, .inr (6, [.ref q11, .ref q18, .null, .int 0])), (q11, .inl (G.2.2 1, N, .inl (fun _ => 0))), (q18, .inl (G.2.2 1, N, .inl (fun _ => 0)))]) H locs := h
  refine lv_aload_n hx hb dX6_init_23 rfl (lv_at hl 0 rfl) ?_
  refine lv_iload_n hx hb dX6_init_24 rfl (lv_at hl 1 rfl) ?_
  refine r_newa C h (ty := .int) rfl 1 (cA := G.2.2 1) rfl (fun z => z) wd4 (n := (nI N)) (N' := N) (a0 := (N, .inl (fun _ => 0))) (fun _ => rfl) (nI_pos (by omega)) (nI_clamp (by omega)) (by show N * 4 ≤ _; omega) (by decide) (by show _ ≤ 300; omega) dX6_init_25 (fun q25 H h => ?_)
  have h : gS G A s ([(h0, .inr (6, [.ref q11, .ref q18, .null, .int 0])), (q11, .inl (G.2.2 1, N, .inl (fun _ => 0))), (q18, .inl (G.2.2 1, N, .inl (fun _ => 0))), (q25, .inl (G.2.2 1, N, .inl (fun _ => 0)))]) H locs := h
  refine r_putF C h 0 rfl (Cn := RX6) (T := TX6) (N := 4) rfl hinX6 tyX6 tyX6_ok nmX6 2 (by decide) (index := 22) (ref := "ScaleHouse$Register") wd7 rfl rfl hnm rfl (v := .ref q25) rfl rfl (show 2 < 4 by decide) dX6_init_27 (fun H locs h => ?_)
  have h : gS G A s ([(h0, .inr (6, [.ref q11, .ref q18, .ref q25, .int 0])), (q11, .inl (G.2.2 1, N, .inl (fun _ => 0))), (q18, .inl (G.2.2 1, N, .inl (fun _ => 0))), (q25, .inl (G.2.2 1, N, .inl (fun _ => 0)))]) H locs := h
  exact r_vret C h hr hlk (by decide) (by omega) (q11, q18, q25) (trivial) (rfl) dX6_init_30

set_option maxHeartbeats 4000000 in
set_option maxRecDepth 100000 in
theorem g_isFull (l : Launch) (G : gG) (h0 h1 h2 h3 N n : Nat) (a b d : Nat → Int32) : cM l yX6_isFull wsX6_isFull 0 0 (0) (0) G [.ref h0] ([(h0, .inr (6, [.ref h1, .ref h2, .ref h3, .int (nI n)])), (h1, .inl (G.2.2 1, N, .inl a)), (h2, .inl (G.2.2 1, N, .inl b)), (h3, .inl (G.2.2 1, N, .inl d))]) (qI G (S := Unit) (fun r _ => r = if nI n < nI N then 0 else 1) (fun _ => [(h0, .inr (6, [.ref h1, .ref h2, .ref h3, .int (nI n)])), (h1, .inl (G.2.2 1, N, .inl a)), (h2, .inl (G.2.2 1, N, .inl b)), (h3, .inl (G.2.2 1, N, .inl d))])) := by
  refine o_M (cc := cX6_isFull) (maxL := 1) (ret := (some .boolean)) (own := RX6) (by decide +kernel) rfl rfl (Nat.le_of_ble_eq_true rfl) ?_
  intro p e s m below meth c A ls H locs hA C h hr hlk hnm hl
  have hx := C.1.1.1
  have hb := C.1.1.2.1
  have hl : lv_has ls 1 [(0, .ref h0)] := hl
  have wd0 : Cond.fieldLink RX6 9 "ScaleHouse$Register" "size" "I" ∈ wsX6_isFull := by decide +kernel
  have hinX6 : ∀ w ∈ wsX60, w ∈ wsX6_isFull := by decide +kernel
  have wd1 : Cond.fieldLink RX6 15 "ScaleHouse$Register" "names" "[I" ∈ wsX6_isFull := by decide +kernel
  refine lv_aload_n hx hb dX6_isFull_0 rfl (lv_at hl 0 rfl) ?_
  refine r_get C h 0 rfl (Cn := RX6) (T := TX6) (N := 4) rfl hinX6 3 (by decide) (index := 9) (ref := "ScaleHouse$Register") wd0 rfl (v := .int (nI n)) rfl dX6_isFull_1 ?_
  refine lv_aload_n hx hb dX6_isFull_4 rfl (lv_at hl 0 rfl) ?_
  refine r_get C h 0 rfl (Cn := RX6) (T := TX6) (N := 4) rfl hinX6 0 (by decide) (index := 15) (ref := "ScaleHouse$Register") wd1 rfl (v := .ref h1) rfl dX6_isFull_5 ?_
  refine r_alen C h 1 1 rfl rfl dX6_isFull_8 ?_
  refine lv_icmp_lt (tgt := 16) hx hb dX6_isFull_9 (by decide) (fun c_9 => ?_) (fun c_9 => ?_)
  · refine lv_iconst (v := 0) hx hb dX6_isFull_16 (by decide) ?_
    exact r_zret C h hr hlk (Nat.zero_le _) (Nat.zero_le _) (Or.inl rfl) () (by simp only [if_pos c_9]) (rfl) dX6_isFull_17
  · refine lv_iconst (v := 1) hx hb dX6_isFull_12 (by decide) ?_
    refine lv_goto (tgt := 17) hx hb dX6_isFull_13 (by decide) ?_
    exact r_zret C h hr hlk (Nat.zero_le _) (Nat.zero_le _) (Or.inr rfl) () (by simp only [if_neg c_9]) (rfl) dX6_isFull_17

set_option maxHeartbeats 4000000 in
set_option maxRecDepth 100000 in
theorem g_enter (l : Launch) (G : gG) (h0 h1 h2 h3 N n : Nat) (a b d : Nat → Int32) (name from_ told : Int32) (hn : n < N) (hN : N < 2 ^ 31) : cM l yX6_enter wsX6_enter 0 0 (0) (0) G [.ref h0, .int name, .int from_, .int told] ([(h0, .inr (6, [.ref h1, .ref h2, .ref h3, .int (nI n)])), (h1, .inl (G.2.2 1, N, .inl a)), (h2, .inl (G.2.2 1, N, .inl b)), (h3, .inl (G.2.2 1, N, .inl d))]) (qI G (S := Unit) (fun r _ => r = nI n) (fun _ => [(h0, .inr (6, [.ref h1, .ref h2, .ref h3, .int (nI (n + 1))])), (h1, .inl (G.2.2 1, N, .inl (upd a n name))), (h2, .inl (G.2.2 1, N, .inl (upd b n from_))), (h3, .inl (G.2.2 1, N, .inl (upd d n told)))])) := by
  refine o_M (cc := cX6_enter) (maxL := 4) (ret := (some .int)) (own := RX6) (by decide +kernel) rfl rfl (Nat.le_of_ble_eq_true rfl) ?_
  intro p e s m below meth c A ls H locs hA C h hr hlk hnm hl
  have hx := C.1.1.1
  have hb := C.1.1.2.1
  have hl : lv_has ls 4 [(0, .ref h0), (1, .int name), (2, .int from_), (3, .int told)] := hl
  have wd0 : Cond.fieldLink RX6 15 "ScaleHouse$Register" "names" "[I" ∈ wsX6_enter := by decide +kernel
  have hinX6 : ∀ w ∈ wsX60, w ∈ wsX6_enter := by decide +kernel
  have wd1 : Cond.fieldLink RX6 9 "ScaleHouse$Register" "size" "I" ∈ wsX6_enter := by decide +kernel
  have wd2 : Cond.fieldLink RX6 19 "ScaleHouse$Register" "froms" "[I" ∈ wsX6_enter := by decide +kernel
  have wd3 : Cond.fieldLink RX6 22 "ScaleHouse$Register" "tolds" "[I" ∈ wsX6_enter := by decide +kernel
  refine lv_aload_n hx hb dX6_enter_0 rfl (lv_at hl 0 rfl) ?_
  refine r_get C h 0 rfl (Cn := RX6) (T := TX6) (N := 4) rfl hinX6 0 (by decide) (index := 15) (ref := "ScaleHouse$Register") wd0 rfl (v := .ref h1) rfl dX6_enter_1 ?_
  refine lv_aload_n hx hb dX6_enter_4 rfl (lv_at hl 0 rfl) ?_
  refine r_get C h 0 rfl (Cn := RX6) (T := TX6) (N := 4) rfl hinX6 3 (by decide) (index := 9) (ref := "ScaleHouse$Register") wd1 rfl (v := .int (nI n)) rfl dX6_enter_5 ?_
  refine lv_iload_n hx hb dX6_enter_8 rfl (lv_at hl 1 rfl) ?_
  refine r_iast C h 1 rfl (i := (nI n)) (vp_in_nI hn hN) dX6_enter_9 (fun H locs h => ?_)
  have h : gS G A s ([(h0, .inr (6, [.ref h1, .ref h2, .ref h3, .int (nI n)])), (h1, .inl (G.2.2 1, N, .inl (upd a (nI n).toNatClampNeg name))), (h2, .inl (G.2.2 1, N, .inl b)), (h3, .inl (G.2.2 1, N, .inl d))]) H locs := h
  rw [show (upd a (nI n).toNatClampNeg name) = (upd a n name) from nn_up a (by omega) _] at h
  have h : gS G A s ([(h0, .inr (6, [.ref h1, .ref h2, .ref h3, .int (nI n)])), (h1, .inl (G.2.2 1, N, .inl (upd a n name))), (h2, .inl (G.2.2 1, N, .inl b)), (h3, .inl (G.2.2 1, N, .inl d))]) H locs := h
  refine lv_aload_n hx hb dX6_enter_10 rfl (lv_at hl 0 rfl) ?_
  refine r_get C h 0 rfl (Cn := RX6) (T := TX6) (N := 4) rfl hinX6 1 (by decide) (index := 19) (ref := "ScaleHouse$Register") wd2 rfl (v := .ref h2) rfl dX6_enter_11 ?_
  refine lv_aload_n hx hb dX6_enter_14 rfl (lv_at hl 0 rfl) ?_
  refine r_get C h 0 rfl (Cn := RX6) (T := TX6) (N := 4) rfl hinX6 3 (by decide) (index := 9) (ref := "ScaleHouse$Register") wd1 rfl (v := .int (nI n)) rfl dX6_enter_15 ?_
  refine lv_iload_n hx hb dX6_enter_18 rfl (lv_at hl 2 rfl) ?_
  refine r_iast C h 2 rfl (i := (nI n)) (vp_in_nI hn hN) dX6_enter_19 (fun H locs h => ?_)
  have h : gS G A s ([(h0, .inr (6, [.ref h1, .ref h2, .ref h3, .int (nI n)])), (h1, .inl (G.2.2 1, N, .inl (upd a n name))), (h2, .inl (G.2.2 1, N, .inl (upd b (nI n).toNatClampNeg from_))), (h3, .inl (G.2.2 1, N, .inl d))]) H locs := h
  rw [show (upd b (nI n).toNatClampNeg from_) = (upd b n from_) from nn_up b (by omega) _] at h
  have h : gS G A s ([(h0, .inr (6, [.ref h1, .ref h2, .ref h3, .int (nI n)])), (h1, .inl (G.2.2 1, N, .inl (upd a n name))), (h2, .inl (G.2.2 1, N, .inl (upd b n from_))), (h3, .inl (G.2.2 1, N, .inl d))]) H locs := h
  refine lv_aload_n hx hb dX6_enter_20 rfl (lv_at hl 0 rfl) ?_
  refine r_get C h 0 rfl (Cn := RX6) (T := TX6) (N := 4) rfl hinX6 2 (by decide) (index := 22) (ref := "ScaleHouse$Register") wd3 rfl (v := .ref h3) rfl dX6_enter_21 ?_
  refine lv_aload_n hx hb dX6_enter_24 rfl (lv_at hl 0 rfl) ?_
  refine r_get C h 0 rfl (Cn := RX6) (T := TX6) (N := 4) rfl hinX6 3 (by decide) (index := 9) (ref := "ScaleHouse$Register") wd1 rfl (v := .int (nI n)) rfl dX6_enter_25 ?_
  refine lv_iload_n hx hb dX6_enter_28 rfl (lv_at hl 3 rfl) ?_
  refine r_iast C h 3 rfl (i := (nI n)) (vp_in_nI hn hN) dX6_enter_29 (fun H locs h => ?_)
  have h : gS G A s ([(h0, .inr (6, [.ref h1, .ref h2, .ref h3, .int (nI n)])), (h1, .inl (G.2.2 1, N, .inl (upd a n name))), (h2, .inl (G.2.2 1, N, .inl (upd b n from_))), (h3, .inl (G.2.2 1, N, .inl (upd d (nI n).toNatClampNeg told)))]) H locs := h
  rw [show (upd d (nI n).toNatClampNeg told) = (upd d n told) from nn_up d (by omega) _] at h
  have h : gS G A s ([(h0, .inr (6, [.ref h1, .ref h2, .ref h3, .int (nI n)])), (h1, .inl (G.2.2 1, N, .inl (upd a n name))), (h2, .inl (G.2.2 1, N, .inl (upd b n from_))), (h3, .inl (G.2.2 1, N, .inl (upd d n told)))]) H locs := h
  refine lv_aload_n hx hb dX6_enter_30 rfl (lv_at hl 0 rfl) ?_
  refine lv_dup hx hb dX6_enter_31 rfl ?_
  refine r_get C h 0 rfl (Cn := RX6) (T := TX6) (N := 4) rfl hinX6 3 (by decide) (index := 9) (ref := "ScaleHouse$Register") wd1 rfl (v := .int (nI n)) rfl dX6_enter_32 ?_
  refine lv_dup_x1 hx hb dX6_enter_35 rfl rfl ?_
  refine lv_iconst (v := 1) hx hb dX6_enter_36 (by decide) ?_
  refine lv_iadd hx hb dX6_enter_37 ?_
  refine r_put C h 0 rfl (Cn := RX6) (T := TX6) (N := 4) rfl hinX6 tyX6 tyX6_ok nmX6 3 (by decide) (index := 9) (ref := "ScaleHouse$Register") wd1 rfl rfl (v := .int ((nI n) + 1)) rfl rfl (show 3 < 4 by decide) dX6_enter_38 (fun H locs h => ?_)
  have h : gS G A s ([(h0, .inr (6, [.ref h1, .ref h2, .ref h3, .int ((nI n) + 1)])), (h1, .inl (G.2.2 1, N, .inl (upd a n name))), (h2, .inl (G.2.2 1, N, .inl (upd b n from_))), (h3, .inl (G.2.2 1, N, .inl (upd d n told)))]) H locs := h
  exact r_iret C h hr hlk (Nat.zero_le _) (Nat.zero_le _) () (rfl) (by rw [← nI_1]) dX6_enter_41

set_option maxHeartbeats 4000000 in
set_option maxRecDepth 100000 in
theorem lp_X6_inForce {p : Program} {l : Launch} {e : Env} {R : Room} {s : State} {m : MethodId} {args : Array Value} {below : List Frame} {meth : Method} {c : Code} {cells slots : Nat} {Q : State → Prop} {G : gG} {A : Nat → Prop} (C : gC p m c cX6_inForce 7 s args wsX6_inForce RX6 G A) (h0 h1 h2 h3 N n : Nat) (a b d : Nat → Int32) (name day q z : Int32) (hn : n ≤ N) (hN : N < 2 ^ 30) (kx : ∀ (H : Heap) (locs : List Loc) (ls : Array Slot), gS G A s ([(h0, .inr (6, [.ref h1, .ref h2, .ref h3, .int (nI n)])), (h1, .inl (G.2.2 1, N, .inl a)), (h2, .inl (G.2.2 1, N, .inl b)), (h3, .inl (G.2.2 1, N, .inl d))]) H locs → lv_has ls 7 [(4, .int z)] → W p l e R s m args below meth c H locs cells slots Q (F0 m 93 ls [])) :
    ∀ (r : Nat) (i : Nat) (t : Int32) (H : Heap) (locs : List Loc) (ls : Array Slot), (i + r = n) → (t = -1 ∨ ∃ j, j < i ∧ t = nI j) → (rgF a b d name day q r i t = z) →  gS G A s ([(h0, .inr (6, [.ref h1, .ref h2, .ref h3, .int (nI n)])), (h1, .inl (G.2.2 1, N, .inl a)), (h2, .inl (G.2.2 1, N, .inl b)), (h3, .inl (G.2.2 1, N, .inl d))]) H locs → lv_has ls 7 [(0, .ref h0), (1, .int name), (2, .int day), (3, .int q), (4, .int t), (5, .int (nI i))] → W p l e R s m args below meth c H locs cells slots Q (F0 m 6 ls []) := by
  have hx := C.1.1.1
  have hb := C.1.1.2.1
  have wd0 : Cond.fieldLink RX6 9 "ScaleHouse$Register" "size" "I" ∈ wsX6_inForce := by decide +kernel
  have hinX6 : ∀ w ∈ wsX60, w ∈ wsX6_inForce := by decide +kernel
  have wd1 : Cond.fieldLink RX6 15 "ScaleHouse$Register" "names" "[I" ∈ wsX6_inForce := by decide +kernel
  have wd2 : Cond.fieldLink RX6 22 "ScaleHouse$Register" "tolds" "[I" ∈ wsX6_inForce := by decide +kernel
  have wd3 : Cond.fieldLink RX6 19 "ScaleHouse$Register" "froms" "[I" ∈ wsX6_inForce := by decide +kernel
  intro r
  induction r with
  | zero =>
    intro i t H locs ls hi ht hz h hl
    refine lv_iload hx hb dX6_inForce_6 (lv_at hl 5 rfl) ?_
    refine lv_aload_n hx hb dX6_inForce_8 rfl (lv_at hl 0 rfl) ?_
    refine r_get C h 0 rfl (Cn := RX6) (T := TX6) (N := 4) rfl hinX6 3 (by decide) (index := 9) (ref := "ScaleHouse$Register") wd0 rfl (v := .int (nI n)) rfl dX6_inForce_9 ?_
    refine lv_icmp_ge (tgt := 93) hx hb dX6_inForce_12 (by decide) (fun c_12 => ?_) (fun c_12 => ?_)
    · cases hz
      exact kx _ _ ls h (lv_sub hl [4] rfl)
    · exact absurd (by rw [show i = n by omega]; exact Int32.le_refl _) c_12
  | succ r ih =>
    intro i t H locs ls hi ht hz h hl
    refine lv_iload hx hb dX6_inForce_6 (lv_at hl 5 rfl) ?_
    refine lv_aload_n hx hb dX6_inForce_8 rfl (lv_at hl 0 rfl) ?_
    refine r_get C h 0 rfl (Cn := RX6) (T := TX6) (N := 4) rfl hinX6 3 (by decide) (index := 9) (ref := "ScaleHouse$Register") wd0 rfl (v := .int (nI n)) rfl dX6_inForce_9 ?_
    refine lv_icmp_ge (tgt := 93) hx hb dX6_inForce_12 (by decide) (fun c_12 => ?_) (fun c_12 => ?_)
    · exact absurd c_12 (nI_ge (by omega) (by omega))
    · refine lv_aload_n hx hb dX6_inForce_15 rfl (lv_at hl 0 rfl) ?_
      refine r_get C h 0 rfl (Cn := RX6) (T := TX6) (N := 4) rfl hinX6 0 (by decide) (index := 15) (ref := "ScaleHouse$Register") wd1 rfl (v := .ref h1) rfl dX6_inForce_16 ?_
      refine lv_iload hx hb dX6_inForce_19 (lv_at hl 5 rfl) ?_
      refine r_iald C h 1 rfl (i := (nI i)) (vp_in_nI (by omega) (by omega)) dX6_inForce_21 ?_
      refine lv_cgi (nn_at a (by omega)) ?_
      refine lv_iload_n hx hb dX6_inForce_22 rfl (lv_at hl 1 rfl) ?_
      refine lv_icmp_ne (tgt := 52) hx hb dX6_inForce_23 (by decide) (fun c_23 => ?_) (fun c_23 => ?_)
      · refine lv_iconst (v := 0) hx hb dX6_inForce_52 (by decide) ?_
        refine lv_istore (lv' := [(6, .int 0), (0, .ref h0), (1, .int name), (2, .int day), (3, .int q), (4, .int t), (5, .int (nI i))]) hx hb dX6_inForce_53 hl (by decide) rfl (fun ls hl => ?_)
        refine lv_iload hx hb dX6_inForce_55 (lv_at hl 0 rfl) ?_
        refine lv_if_eq (tgt := 87) hx hb dX6_inForce_57 (by decide) (fun c_57 => ?_) (fun c_57 => ?_)
        · obtain ⟨x_1, ex_1⟩ : ∃ y : Int32, y = (nI i) + 1 := ⟨_, rfl⟩
          refine lv_iinc (v := x_1) (lv' := [(5, .int x_1), (6, .int 0), (0, .ref h0), (1, .int name), (2, .int day), (3, .int q), (4, .int t)]) hx hb dX6_inForce_87 hl (k := 6) rfl (by rw [ex_1]; rfl) (by decide) rfl (fun ls hl => ?_)
          refine lv_goto (tgt := 6) hx hb dX6_inForce_90 (by decide) ?_
          exact ih (i + 1) t _ _ ls (by omega) (ht.elim Or.inl (fun ⟨j, hj, e⟩ => Or.inr ⟨j, by omega, e⟩)) (by rw [← hz, rgF]; simp only [if_neg c_23]) h (by rw [← nI_1, ← ex_1]; exact lv_sub hl [2, 3, 4, 5, 6, 0] rfl)
        · exact absurd c_57 (by decide)
      · refine lv_aload_n hx hb dX6_inForce_26 rfl (lv_at hl 0 rfl) ?_
        refine r_get C h 0 rfl (Cn := RX6) (T := TX6) (N := 4) rfl hinX6 2 (by decide) (index := 22) (ref := "ScaleHouse$Register") wd2 rfl (v := .ref h3) rfl dX6_inForce_27 ?_
        refine lv_iload hx hb dX6_inForce_30 (lv_at hl 5 rfl) ?_
        refine r_iald C h 3 rfl (i := (nI i)) (vp_in_nI (by omega) (by omega)) dX6_inForce_32 ?_
        refine lv_cgi (nn_at d (by omega)) ?_
        refine lv_iload_n hx hb dX6_inForce_33 rfl (lv_at hl 3 rfl) ?_
        refine lv_icmp_gt (tgt := 52) hx hb dX6_inForce_34 (by decide) (fun c_34 => ?_) (fun c_34 => ?_)
        · refine lv_iconst (v := 0) hx hb dX6_inForce_52 (by decide) ?_
          refine lv_istore (lv' := [(6, .int 0), (0, .ref h0), (1, .int name), (2, .int day), (3, .int q), (4, .int t), (5, .int (nI i))]) hx hb dX6_inForce_53 hl (by decide) rfl (fun ls hl => ?_)
          refine lv_iload hx hb dX6_inForce_55 (lv_at hl 0 rfl) ?_
          refine lv_if_eq (tgt := 87) hx hb dX6_inForce_57 (by decide) (fun c_57 => ?_) (fun c_57 => ?_)
          · obtain ⟨x_2, ex_2⟩ : ∃ y : Int32, y = (nI i) + 1 := ⟨_, rfl⟩
            refine lv_iinc (v := x_2) (lv' := [(5, .int x_2), (6, .int 0), (0, .ref h0), (1, .int name), (2, .int day), (3, .int q), (4, .int t)]) hx hb dX6_inForce_87 hl (k := 6) rfl (by rw [ex_2]; rfl) (by decide) rfl (fun ls hl => ?_)
            refine lv_goto (tgt := 6) hx hb dX6_inForce_90 (by decide) ?_
            exact ih (i + 1) t _ _ ls (by omega) (ht.elim Or.inl (fun ⟨j, hj, e⟩ => Or.inr ⟨j, by omega, e⟩)) (by rw [← hz, rgF]; simp only [if_pos c_23, if_pos c_34]) h (by rw [← nI_1, ← ex_2]; exact lv_sub hl [2, 3, 4, 5, 6, 0] rfl)
          · exact absurd c_57 (by decide)
        · refine lv_aload_n hx hb dX6_inForce_37 rfl (lv_at hl 0 rfl) ?_
          refine r_get C h 0 rfl (Cn := RX6) (T := TX6) (N := 4) rfl hinX6 1 (by decide) (index := 19) (ref := "ScaleHouse$Register") wd3 rfl (v := .ref h2) rfl dX6_inForce_38 ?_
          refine lv_iload hx hb dX6_inForce_41 (lv_at hl 5 rfl) ?_
          refine r_iald C h 2 rfl (i := (nI i)) (vp_in_nI (by omega) (by omega)) dX6_inForce_43 ?_
          refine lv_cgi (nn_at b (by omega)) ?_
          refine lv_iload_n hx hb dX6_inForce_44 rfl (lv_at hl 2 rfl) ?_
          refine lv_icmp_gt (tgt := 52) hx hb dX6_inForce_45 (by decide) (fun c_45 => ?_) (fun c_45 => ?_)
          · refine lv_iconst (v := 0) hx hb dX6_inForce_52 (by decide) ?_
            refine lv_istore (lv' := [(6, .int 0), (0, .ref h0), (1, .int name), (2, .int day), (3, .int q), (4, .int t), (5, .int (nI i))]) hx hb dX6_inForce_53 hl (by decide) rfl (fun ls hl => ?_)
            refine lv_iload hx hb dX6_inForce_55 (lv_at hl 0 rfl) ?_
            refine lv_if_eq (tgt := 87) hx hb dX6_inForce_57 (by decide) (fun c_57 => ?_) (fun c_57 => ?_)
            · obtain ⟨x_3, ex_3⟩ : ∃ y : Int32, y = (nI i) + 1 := ⟨_, rfl⟩
              refine lv_iinc (v := x_3) (lv' := [(5, .int x_3), (6, .int 0), (0, .ref h0), (1, .int name), (2, .int day), (3, .int q), (4, .int t)]) hx hb dX6_inForce_87 hl (k := 6) rfl (by rw [ex_3]; rfl) (by decide) rfl (fun ls hl => ?_)
              refine lv_goto (tgt := 6) hx hb dX6_inForce_90 (by decide) ?_
              exact ih (i + 1) t _ _ ls (by omega) (ht.elim Or.inl (fun ⟨j, hj, e⟩ => Or.inr ⟨j, by omega, e⟩)) (by rw [← hz, rgF]; simp only [if_pos c_23, if_neg c_34, if_pos c_45]) h (by rw [← nI_1, ← ex_3]; exact lv_sub hl [2, 3, 4, 5, 6, 0] rfl)
            · exact absurd c_57 (by decide)
          · refine lv_iconst (v := 1) hx hb dX6_inForce_48 (by decide) ?_
            refine lv_goto (tgt := 53) hx hb dX6_inForce_49 (by decide) ?_
            refine lv_istore (lv' := [(6, .int 1), (0, .ref h0), (1, .int name), (2, .int day), (3, .int q), (4, .int t), (5, .int (nI i))]) hx hb dX6_inForce_53 hl (by decide) rfl (fun ls hl => ?_)
            refine lv_iload hx hb dX6_inForce_55 (lv_at hl 0 rfl) ?_
            refine lv_if_eq (tgt := 87) hx hb dX6_inForce_57 (by decide) (fun c_57 => ?_) (fun c_57 => ?_)
            · exact absurd c_57 (by decide)
            · refine lv_iload hx hb dX6_inForce_60 (lv_at hl 5 rfl) ?_
              refine lv_iconst (v := -1) hx hb dX6_inForce_62 (by decide) ?_
              refine lv_icmp_eq (tgt := 83) hx hb dX6_inForce_63 (by decide) (fun c_63 => ?_) (fun c_63 => ?_)
              · refine lv_iload hx hb dX6_inForce_83 (lv_at hl 6 rfl) ?_
                refine lv_istore (lv' := [(4, .int (nI i)), (6, .int 1), (0, .ref h0), (1, .int name), (2, .int day), (3, .int q), (5, .int (nI i))]) hx hb dX6_inForce_85 hl (by decide) rfl (fun ls hl => ?_)
                obtain ⟨x_4, ex_4⟩ : ∃ y : Int32, y = (nI i) + 1 := ⟨_, rfl⟩
                refine lv_iinc (v := x_4) (lv' := [(5, .int x_4), (4, .int (nI i)), (6, .int 1), (0, .ref h0), (1, .int name), (2, .int day), (3, .int q)]) hx hb dX6_inForce_87 hl (k := 6) rfl (by rw [ex_4]; rfl) (by decide) rfl (fun ls hl => ?_)
                refine lv_goto (tgt := 6) hx hb dX6_inForce_90 (by decide) ?_
                exact ih (i + 1) (nI i) _ _ ls (by omega) (Or.inr ⟨i, by omega, rfl⟩) (by rw [← hz, rgF]; simp only [if_pos c_23, if_neg c_34, if_neg c_45, if_pos c_63]) h (by rw [← nI_1, ← ex_4]; exact lv_sub hl [3, 4, 5, 6, 1, 0] rfl)
              · refine lv_aload_n hx hb dX6_inForce_66 rfl (lv_at hl 1 rfl) ?_
                refine r_get C h 0 rfl (Cn := RX6) (T := TX6) (N := 4) rfl hinX6 1 (by decide) (index := 19) (ref := "ScaleHouse$Register") wd3 rfl (v := .ref h2) rfl dX6_inForce_67 ?_
                refine lv_iload hx hb dX6_inForce_70 (lv_at hl 6 rfl) ?_
                refine r_iald C h 2 rfl (i := (nI i)) (vp_in_nI (by omega) (by omega)) dX6_inForce_72 ?_
                refine lv_cgi (nn_at b (by omega)) ?_
                refine lv_aload_n hx hb dX6_inForce_73 rfl (lv_at hl 1 rfl) ?_
                refine r_get C h 0 rfl (Cn := RX6) (T := TX6) (N := 4) rfl hinX6 1 (by decide) (index := 19) (ref := "ScaleHouse$Register") wd3 rfl (v := .ref h2) rfl dX6_inForce_74 ?_
                refine lv_iload hx hb dX6_inForce_77 (lv_at hl 5 rfl) ?_
                refine r_iald C h 2 rfl (i := t) (by obtain ⟨j, hj, rfl⟩ := ht.resolve_left c_63; exact vp_in_nI (by omega) (by omega)) dX6_inForce_79 ?_
                refine lv_icmp_lt (tgt := 87) hx hb dX6_inForce_80 (by decide) (fun c_80 => ?_) (fun c_80 => ?_)
                · obtain ⟨x_5, ex_5⟩ : ∃ y : Int32, y = (nI i) + 1 := ⟨_, rfl⟩
                  refine lv_iinc (v := x_5) (lv' := [(5, .int x_5), (6, .int 1), (0, .ref h0), (1, .int name), (2, .int day), (3, .int q), (4, .int t)]) hx hb dX6_inForce_87 hl (k := 6) rfl (by rw [ex_5]; rfl) (by decide) rfl (fun ls hl => ?_)
                  refine lv_goto (tgt := 6) hx hb dX6_inForce_90 (by decide) ?_
                  exact ih (i + 1) t _ _ ls (by omega) (ht.elim Or.inl (fun ⟨j, hj, e⟩ => Or.inr ⟨j, by omega, e⟩)) (by rw [← hz, rgF]; simp only [if_pos c_23, if_neg c_34, if_neg c_45, if_neg c_63, if_pos c_80]) h (by rw [← nI_1, ← ex_5]; exact lv_sub hl [2, 3, 4, 5, 6, 0] rfl)
                · refine lv_iload hx hb dX6_inForce_83 (lv_at hl 6 rfl) ?_
                  refine lv_istore (lv' := [(4, .int (nI i)), (6, .int 1), (0, .ref h0), (1, .int name), (2, .int day), (3, .int q), (5, .int (nI i))]) hx hb dX6_inForce_85 hl (by decide) rfl (fun ls hl => ?_)
                  obtain ⟨x_6, ex_6⟩ : ∃ y : Int32, y = (nI i) + 1 := ⟨_, rfl⟩
                  refine lv_iinc (v := x_6) (lv' := [(5, .int x_6), (4, .int (nI i)), (6, .int 1), (0, .ref h0), (1, .int name), (2, .int day), (3, .int q)]) hx hb dX6_inForce_87 hl (k := 6) rfl (by rw [ex_6]; rfl) (by decide) rfl (fun ls hl => ?_)
                  refine lv_goto (tgt := 6) hx hb dX6_inForce_90 (by decide) ?_
                  exact ih (i + 1) (nI i) _ _ ls (by omega) (Or.inr ⟨i, by omega, rfl⟩) (by rw [← hz, rgF]; simp only [if_pos c_23, if_neg c_34, if_neg c_45, if_neg c_63, if_neg c_80]) h (by rw [← nI_1, ← ex_6]; exact lv_sub hl [3, 4, 5, 6, 1, 0] rfl)

set_option maxHeartbeats 4000000 in
set_option maxRecDepth 100000 in
theorem g_inForce (l : Launch) (G : gG) (h0 h1 h2 h3 N n : Nat) (a b d : Nat → Int32) (name day q : Int32) (hn : n ≤ N) (hN : N < 2 ^ 30) : cM l yX6_inForce wsX6_inForce 0 0 (0) (0) G [.ref h0, .int name, .int day, .int q] ([(h0, .inr (6, [.ref h1, .ref h2, .ref h3, .int (nI n)])), (h1, .inl (G.2.2 1, N, .inl a)), (h2, .inl (G.2.2 1, N, .inl b)), (h3, .inl (G.2.2 1, N, .inl d))]) (qI G (S := Unit) (fun r _ => r = rgF a b d name day q n 0 (-1)) (fun _ => [(h0, .inr (6, [.ref h1, .ref h2, .ref h3, .int (nI n)])), (h1, .inl (G.2.2 1, N, .inl a)), (h2, .inl (G.2.2 1, N, .inl b)), (h3, .inl (G.2.2 1, N, .inl d))])) := by
  refine o_M (cc := cX6_inForce) (maxL := 7) (ret := (some .int)) (own := RX6) (by decide +kernel) rfl rfl (Nat.le_of_ble_eq_true rfl) ?_
  intro p e s m below meth c A ls H locs hA C h hr hlk hnm hl
  have hx := C.1.1.1
  have hb := C.1.1.2.1
  have hl : lv_has ls 7 [(0, .ref h0), (1, .int name), (2, .int day), (3, .int q)] := hl
  refine lv_iconst (v := -1) hx hb dX6_inForce_0 (by decide) ?_
  refine lv_istore (lv' := [(4, .int (-1)), (0, .ref h0), (1, .int name), (2, .int day), (3, .int q)]) hx hb dX6_inForce_1 hl (by decide) rfl (fun ls hl => ?_)
  refine lv_iconst (v := 0) hx hb dX6_inForce_3 (by decide) ?_
  refine lv_istore (lv' := [(5, .int 0), (4, .int (-1)), (0, .ref h0), (1, .int name), (2, .int day), (3, .int q)]) hx hb dX6_inForce_4 hl (by decide) rfl (fun ls hl => ?_)
  refine lp_X6_inForce C h0 h1 h2 h3 N n a b d name day q (rgF a b d name day q n 0 (-1)) hn hN (fun H locs ls h hl => ?_) n 0 (-1) _ _ ls (by omega) (Or.inl rfl) rfl h (lv_sub hl [2, 3, 4, 5, 1, 0] rfl)
  refine lv_iload hx hb dX6_inForce_93 (lv_at hl 0 rfl) ?_
  exact r_iret C h hr hlk (Nat.zero_le _) (Nat.zero_le _) () rfl rfl dX6_inForce_95
