set_option maxHeartbeats 4000000 in
set_option maxRecDepth 100000 in
theorem l_init (l : Launch) (G : gG) (h0 h1 : Nat) : cM l yX1_init wsX1_init 1 20 (0) (0) G [.ref h0, .ref h1] ([(h0, .inr (1, [.null]))]) (qV G (S := Unit) (fun _ => True) (fun _ => [(h0, .inr (1, [.ref h1]))])) := by
  refine o_M (cc := cX1_init) (maxL := 2) (ret := none) (own := RX1) (by decide +kernel) rfl rfl (Nat.le_of_ble_eq_true rfl) ?_
  intro p e s m below meth c A ls H locs hA C h hr hlk hnm hl
  have hx := C.1.1.1
  have hb := C.1.1.2.1
  have hl : lv_has ls 2 [(0, .ref h0), (1, .ref h1)] := hl
  have wd0 : Cond.methodLink RX1 1 objectInit ∈ wsX1_init := by decide +kernel
  have wd1 : Cond.instanceMethod objectInit ∈ wsX1_init := by decide +kernel
  have wd2 : Cond.code objectInit ⟨#[0xb1]⟩ 1 none ∈ wsX1_init := by decide +kernel
  have wd3 : Cond.fieldLink RX1 7 "ScaleHouse$Law" "tokens" "[I" ∈ wsX1_init := by decide +kernel
  have hinX1 : ∀ w ∈ wsX10, w ∈ wsX1_init := by decide +kernel
  refine lv_aload_n hx hb dX1_init_0 rfl (lv_at hl 0 rfl) ?_
  refine r_objInit C wd0 wd1 wd2 hl.1 dX1_init_1 (Nat.le_of_ble_eq_true rfl) (Nat.le_of_ble_eq_true rfl) ?_
  refine lv_aload_n hx hb dX1_init_4 rfl (lv_at hl 0 rfl) ?_
  refine lv_aload_n hx hb dX1_init_5 rfl (lv_at hl 1 rfl) ?_
  refine r_putF C h 0 rfl (Cn := RX1) (T := TX1) (N := 1) rfl hinX1 tyX1 tyX1_ok nmX1 0 (by decide) (index := 7) (ref := "ScaleHouse$Law") wd3 rfl rfl hnm rfl (v := .ref h1) rfl rfl (show 0 < 1 by decide) dX1_init_6 (fun H locs h => ?_)
  have h : gS G A s ([(h0, .inr (1, [.ref h1]))]) H locs := h
  exact r_vret C h hr hlk (Nat.zero_le _) (Nat.zero_le _) () (trivial) (rfl) dX1_init_9

set_option maxHeartbeats 4000000 in
set_option maxRecDepth 100000 in
theorem o_init (l : Launch) (G : gG) (h0 : Nat) (a b c9 d e9 : Int32) : cM l yX3_init wsX3_init 1 20 (0) (0) G [.ref h0, .int a, .int b, .int c9, .int d, .int e9] ([(h0, .inr (3, [.int 0, .int 0, .int 0, .int 0, .int 0, .int 0, .int 0, .int 0, .int 0]))]) (qV G (S := Unit) (fun _ => True) (fun _ => [(h0, .inr (3, [.int a, .int b, .int c9, .int d, .int e9, .int 0, .int 0, .int 0, .int 0]))])) := by
  refine o_M (cc := cX3_init) (maxL := 6) (ret := none) (own := RX3) (by decide +kernel) rfl rfl (Nat.le_of_ble_eq_true rfl) ?_
  intro p e s m below meth c A ls H locs hA C h hr hlk hnm hl
  have hx := C.1.1.1
  have hb := C.1.1.2.1
  have hl : lv_has ls 6 [(0, .ref h0), (1, .int a), (2, .int b), (3, .int c9), (4, .int d), (5, .int e9)] := hl
  have wd0 : Cond.methodLink RX3 1 objectInit ∈ wsX3_init := by decide +kernel
  have wd1 : Cond.instanceMethod objectInit ∈ wsX3_init := by decide +kernel
  have wd2 : Cond.code objectInit ⟨#[0xb1]⟩ 1 none ∈ wsX3_init := by decide +kernel
  have wd3 : Cond.fieldLink RX3 7 "ScaleHouse$Log" "rot" "I" ∈ wsX3_init := by decide +kernel
  have hinX3 : ∀ w ∈ wsX30, w ∈ wsX3_init := by decide +kernel
  have wd4 : Cond.fieldLink RX3 13 "ScaleHouse$Log" "bend" "I" ∈ wsX3_init := by decide +kernel
  have wd5 : Cond.fieldLink RX3 16 "ScaleHouse$Log" "checked" "I" ∈ wsX3_init := by decide +kernel
  have wd6 : Cond.fieldLink RX3 19 "ScaleHouse$Log" "booked" "I" ∈ wsX3_init := by decide +kernel
  have wd7 : Cond.fieldLink RX3 22 "ScaleHouse$Log" "owner" "I" ∈ wsX3_init := by decide +kernel
  have wd8 : Cond.fieldLink RX3 25 "ScaleHouse$Log" "stick" "I" ∈ wsX3_init := by decide +kernel
  have wd9 : Cond.fieldLink RX3 28 "ScaleHouse$Log" "read" "I" ∈ wsX3_init := by decide +kernel
  have wd10 : Cond.fieldLink RX3 31 "ScaleHouse$Log" "length" "I" ∈ wsX3_init := by decide +kernel
  have wd11 : Cond.fieldLink RX3 34 "ScaleHouse$Log" "day" "I" ∈ wsX3_init := by decide +kernel
  refine lv_aload_n hx hb dX3_init_0 rfl (lv_at hl 0 rfl) ?_
  refine r_objInit C wd0 wd1 wd2 hl.1 dX3_init_1 (Nat.le_of_ble_eq_true rfl) (Nat.le_of_ble_eq_true rfl) ?_
  refine lv_aload_n hx hb dX3_init_4 rfl (lv_at hl 0 rfl) ?_
  refine lv_iconst (v := 0) hx hb dX3_init_5 (by decide) ?_
  refine r_put C h 0 rfl (Cn := RX3) (T := TX3) (N := 9) rfl hinX3 tyX3 tyX3_ok nmX3 5 (by decide) (index := 7) (ref := "ScaleHouse$Log") wd3 rfl rfl (v := .int 0) rfl rfl (show 5 < 9 by decide) dX3_init_6 (fun H locs h => ?_)
  have h : gS G A s ([(h0, .inr (3, [.int 0, .int 0, .int 0, .int 0, .int 0, .int 0, .int 0, .int 0, .int 0]))]) H locs := h
  refine lv_aload_n hx hb dX3_init_9 rfl (lv_at hl 0 rfl) ?_
  refine lv_iconst (v := 0) hx hb dX3_init_10 (by decide) ?_
  refine r_put C h 0 rfl (Cn := RX3) (T := TX3) (N := 9) rfl hinX3 tyX3 tyX3_ok nmX3 6 (by decide) (index := 13) (ref := "ScaleHouse$Log") wd4 rfl rfl (v := .int 0) rfl rfl (show 6 < 9 by decide) dX3_init_11 (fun H locs h => ?_)
  have h : gS G A s ([(h0, .inr (3, [.int 0, .int 0, .int 0, .int 0, .int 0, .int 0, .int 0, .int 0, .int 0]))]) H locs := h
  refine lv_aload_n hx hb dX3_init_14 rfl (lv_at hl 0 rfl) ?_
  refine lv_iconst (v := 0) hx hb dX3_init_15 (by decide) ?_
  refine r_put C h 0 rfl (Cn := RX3) (T := TX3) (N := 9) rfl hinX3 tyX3 tyX3_ok nmX3 7 (by decide) (index := 16) (ref := "ScaleHouse$Log") wd5 rfl rfl (v := .int 0) rfl rfl (show 7 < 9 by decide) dX3_init_16 (fun H locs h => ?_)
  have h : gS G A s ([(h0, .inr (3, [.int 0, .int 0, .int 0, .int 0, .int 0, .int 0, .int 0, .int 0, .int 0]))]) H locs := h
  refine lv_aload_n hx hb dX3_init_19 rfl (lv_at hl 0 rfl) ?_
  refine lv_iconst (v := 0) hx hb dX3_init_20 (by decide) ?_
  refine r_put C h 0 rfl (Cn := RX3) (T := TX3) (N := 9) rfl hinX3 tyX3 tyX3_ok nmX3 8 (by decide) (index := 19) (ref := "ScaleHouse$Log") wd6 rfl rfl (v := .int 0) rfl rfl (show 8 < 9 by decide) dX3_init_21 (fun H locs h => ?_)
  have h : gS G A s ([(h0, .inr (3, [.int 0, .int 0, .int 0, .int 0, .int 0, .int 0, .int 0, .int 0, .int 0]))]) H locs := h
  refine lv_aload_n hx hb dX3_init_24 rfl (lv_at hl 0 rfl) ?_
  refine lv_iload_n hx hb dX3_init_25 rfl (lv_at hl 1 rfl) ?_
  refine r_putF C h 0 rfl (Cn := RX3) (T := TX3) (N := 9) rfl hinX3 tyX3 tyX3_ok nmX3 0 (by decide) (index := 22) (ref := "ScaleHouse$Log") wd7 rfl rfl hnm rfl (v := .int a) rfl rfl (show 0 < 9 by decide) dX3_init_26 (fun H locs h => ?_)
  have h : gS G A s ([(h0, .inr (3, [.int a, .int 0, .int 0, .int 0, .int 0, .int 0, .int 0, .int 0, .int 0]))]) H locs := h
  refine lv_aload_n hx hb dX3_init_29 rfl (lv_at hl 0 rfl) ?_
  refine lv_iload_n hx hb dX3_init_30 rfl (lv_at hl 2 rfl) ?_
  refine r_putF C h 0 rfl (Cn := RX3) (T := TX3) (N := 9) rfl hinX3 tyX3 tyX3_ok nmX3 1 (by decide) (index := 25) (ref := "ScaleHouse$Log") wd8 rfl rfl hnm rfl (v := .int b) rfl rfl (show 1 < 9 by decide) dX3_init_31 (fun H locs h => ?_)
  have h : gS G A s ([(h0, .inr (3, [.int a, .int b, .int 0, .int 0, .int 0, .int 0, .int 0, .int 0, .int 0]))]) H locs := h
  refine lv_aload_n hx hb dX3_init_34 rfl (lv_at hl 0 rfl) ?_
  refine lv_iload_n hx hb dX3_init_35 rfl (lv_at hl 3 rfl) ?_
  refine r_putF C h 0 rfl (Cn := RX3) (T := TX3) (N := 9) rfl hinX3 tyX3 tyX3_ok nmX3 2 (by decide) (index := 28) (ref := "ScaleHouse$Log") wd9 rfl rfl hnm rfl (v := .int c9) rfl rfl (show 2 < 9 by decide) dX3_init_36 (fun H locs h => ?_)
  have h : gS G A s ([(h0, .inr (3, [.int a, .int b, .int c9, .int 0, .int 0, .int 0, .int 0, .int 0, .int 0]))]) H locs := h
  refine lv_aload_n hx hb dX3_init_39 rfl (lv_at hl 0 rfl) ?_
  refine lv_iload hx hb dX3_init_40 (lv_at hl 4 rfl) ?_
  refine r_putF C h 0 rfl (Cn := RX3) (T := TX3) (N := 9) rfl hinX3 tyX3 tyX3_ok nmX3 3 (by decide) (index := 31) (ref := "ScaleHouse$Log") wd10 rfl rfl hnm rfl (v := .int d) rfl rfl (show 3 < 9 by decide) dX3_init_42 (fun H locs h => ?_)
  have h : gS G A s ([(h0, .inr (3, [.int a, .int b, .int c9, .int d, .int 0, .int 0, .int 0, .int 0, .int 0]))]) H locs := h
  refine lv_aload_n hx hb dX3_init_45 rfl (lv_at hl 0 rfl) ?_
  refine lv_iload hx hb dX3_init_46 (lv_at hl 5 rfl) ?_
  refine r_putF C h 0 rfl (Cn := RX3) (T := TX3) (N := 9) rfl hinX3 tyX3 tyX3_ok nmX3 4 (by decide) (index := 34) (ref := "ScaleHouse$Log") wd11 rfl rfl hnm rfl (v := .int e9) rfl rfl (show 4 < 9 by decide) dX3_init_48 (fun H locs h => ?_)
  have h : gS G A s ([(h0, .inr (3, [.int a, .int b, .int c9, .int d, .int e9, .int 0, .int 0, .int 0, .int 0]))]) H locs := h
  exact r_vret C h hr hlk (Nat.zero_le _) (Nat.zero_le _) () (trivial) (rfl) dX3_init_51

set_option maxHeartbeats 4000000 in
set_option maxRecDepth 100000 in
theorem y_init (l : Launch) (G : gG) (h0 : Nat) : cM l yX7_init wsX7_init 1 20 (2) (40) G [.ref h0] ([(h0, .inr (7, [.null, .null, .int 0]))]) (qV G (S := Nat × Nat) (fun _ => True) (fun u => [(h0, .inr (7, [.ref u.1, .ref u.2, .int (nI 0)])), (u.1, .inl (G.2.2 1, 20, .inl (fun _ => 0))), (u.2, .inl (G.2.2 1, 20, .inl (fun _ => 0)))])) := by
  refine o_M (cc := cX7_init) (maxL := 1) (ret := none) (own := RX7) (by decide +kernel) rfl rfl (Nat.le_of_ble_eq_true rfl) ?_
  intro p e s m below meth c A ls H locs hA C h hr hlk hnm hl
  have hx := C.1.1.1
  have hb := C.1.1.2.1
  have hl : lv_has ls 1 [(0, .ref h0)] := hl
  have wd0 : Cond.methodLink RX7 3 objectInit ∈ wsX7_init := by decide +kernel
  have wd1 : Cond.instanceMethod objectInit ∈ wsX7_init := by decide +kernel
  have wd2 : Cond.code objectInit ⟨#[0xb1]⟩ 1 none ∈ wsX7_init := by decide +kernel
  have wd3 : Cond.arrayClass .int ∈ wsX7_init := by decide +kernel
  have wd4 : Cond.fieldLink RX7 9 "ScaleHouse$Tally" "ds" "[I" ∈ wsX7_init := by decide +kernel
  have hinX7 : ∀ w ∈ wsX70, w ∈ wsX7_init := by decide +kernel
  have wd5 : Cond.fieldLink RX7 15 "ScaleHouse$Tally" "ls" "[I" ∈ wsX7_init := by decide +kernel
  have wd6 : Cond.fieldLink RX7 18 "ScaleHouse$Tally" "size" "I" ∈ wsX7_init := by decide +kernel
  refine lv_aload_n hx hb dX7_init_0 rfl (lv_at hl 0 rfl) ?_
  refine r_objInit C wd0 wd1 wd2 hl.1 dX7_init_1 (Nat.le_of_ble_eq_true rfl) (Nat.le_of_ble_eq_true rfl) ?_
  refine lv_aload_n hx hb dX7_init_4 rfl (lv_at hl 0 rfl) ?_
  refine lv_bipush (v := 20) hx hb dX7_init_5 (by decide) ?_
  refine r_newa C h (ty := .int) rfl 1 (cA := G.2.2 1) rfl (fun z => z) wd3 (n := 20) (N' := 20) (a0 := (20, .inl (fun _ => 0))) (fun _ => rfl) (by decide) (rfl) (by decide) (Nat.le_of_ble_eq_true rfl) (Nat.le_of_ble_eq_true rfl) dX7_init_7 (fun q1 H h => ?_)
  refine W.widen (k := 1) (n := 20) (Nat.le_of_ble_eq_true rfl) (Nat.le_of_ble_eq_true rfl) ?_
  have h : gS G A s ([(h0, .inr (7, [.null, .null, .int 0])), (q1, .inl (G.2.2 1, 20, .inl (fun _ => 0)))]) H locs := h
  refine r_putF C h 0 rfl (Cn := RX7) (T := TX7) (N := 3) rfl hinX7 tyX7 tyX7_ok nmX7 0 (by decide) (index := 9) (ref := "ScaleHouse$Tally") wd4 rfl rfl hnm rfl (v := .ref q1) rfl rfl (show 0 < 3 by decide) dX7_init_9 (fun H locs h => ?_)
  have h : gS G A s ([(h0, .inr (7, [.ref q1, .null, .int 0])), (q1, .inl (G.2.2 1, 20, .inl (fun _ => 0)))]) H locs := h
  refine lv_aload_n hx hb dX7_init_12 rfl (lv_at hl 0 rfl) ?_
  refine lv_bipush (v := 20) hx hb dX7_init_13 (by decide) ?_
  refine r_newa C h (ty := .int) rfl 1 (cA := G.2.2 1) rfl (fun z => z) wd3 (n := 20) (N' := 20) (a0 := (20, .inl (fun _ => 0))) (fun _ => rfl) (by decide) (rfl) (by decide) (Nat.le_of_ble_eq_true rfl) (Nat.le_of_ble_eq_true rfl) dX7_init_15 (fun q2 H h => ?_)
  refine W.widen (k := 2) (n := 40) (Nat.le_of_ble_eq_true rfl) (Nat.le_of_ble_eq_true rfl) ?_
  have h : gS G A s ([(h0, .inr (7, [.ref q1, .null, .int 0])), (q1, .inl (G.2.2 1, 20, .inl (fun _ => 0))), (q2, .inl (G.2.2 1, 20, .inl (fun _ => 0)))]) H locs := h
  refine r_putF C h 0 rfl (Cn := RX7) (T := TX7) (N := 3) rfl hinX7 tyX7 tyX7_ok nmX7 1 (by decide) (index := 15) (ref := "ScaleHouse$Tally") wd5 rfl rfl hnm rfl (v := .ref q2) rfl rfl (show 1 < 3 by decide) dX7_init_17 (fun H locs h => ?_)
  have h : gS G A s ([(h0, .inr (7, [.ref q1, .ref q2, .int 0])), (q1, .inl (G.2.2 1, 20, .inl (fun _ => 0))), (q2, .inl (G.2.2 1, 20, .inl (fun _ => 0)))]) H locs := h
  refine lv_aload_n hx hb dX7_init_20 rfl (lv_at hl 0 rfl) ?_
  refine lv_iconst (v := 0) hx hb dX7_init_21 (by decide) ?_
  refine r_put C h 0 rfl (Cn := RX7) (T := TX7) (N := 3) rfl hinX7 tyX7 tyX7_ok nmX7 2 (by decide) (index := 18) (ref := "ScaleHouse$Tally") wd6 rfl rfl (v := .int 0) rfl rfl (show 2 < 3 by decide) dX7_init_22 (fun H locs h => ?_)
  have h : gS G A s ([(h0, .inr (7, [.ref q1, .ref q2, .int 0])), (q1, .inl (G.2.2 1, 20, .inl (fun _ => 0))), (q2, .inl (G.2.2 1, 20, .inl (fun _ => 0)))]) H locs := h
  exact r_vret C h hr hlk (Nat.le_refl _) (Nat.le_refl _) (q1, q2) (trivial) (rfl) dX7_init_25

def tyN (n : Nat) : Nat := if n < 20 then n + 1 else n
def tyU (n : Nat) (f : Nat → Int32) (x : Int32) : Nat → Int32 := if n < 20 then upd f n x else f

set_option maxHeartbeats 4000000 in
set_option maxRecDepth 100000 in
theorem y_add (l : Launch) (G : gG) (h0 h1 h2 n : Nat) (a b : Nat → Int32) (x y : Int32) (hn : n ≤ 20) : cM l yX7_add wsX7_add 0 0 (0) (0) G [.ref h0, .int x, .int y] ([(h0, .inr (7, [.ref h1, .ref h2, .int (nI n)])), (h1, .inl (G.2.2 1, 20, .inl a)), (h2, .inl (G.2.2 1, 20, .inl b))]) (qI G (S := Unit) (fun r _ => r = if n < 20 then nI n else -1) (fun _ => [(h0, .inr (7, [.ref h1, .ref h2, .int (nI (tyN n))])), (h1, .inl (G.2.2 1, 20, .inl (tyU n a x))), (h2, .inl (G.2.2 1, 20, .inl (tyU n b y)))])) := by
  refine o_M (cc := cX7_add) (maxL := 3) (ret := (some .int)) (own := RX7) (by decide +kernel) rfl rfl (Nat.le_of_ble_eq_true rfl) ?_
  intro p e s m below meth c A ls H locs hA C h hr hlk hnm hl
  have hx := C.1.1.1
  have hb := C.1.1.2.1
  have hl : lv_has ls 3 [(0, .ref h0), (1, .int x), (2, .int y)] := hl
  have wd0 : Cond.fieldLink RX7 18 "ScaleHouse$Tally" "size" "I" ∈ wsX7_add := by decide +kernel
  have hinX7 : ∀ w ∈ wsX70, w ∈ wsX7_add := by decide +kernel
  have wd1 : Cond.fieldLink RX7 9 "ScaleHouse$Tally" "ds" "[I" ∈ wsX7_add := by decide +kernel
  have wd2 : Cond.fieldLink RX7 15 "ScaleHouse$Tally" "ls" "[I" ∈ wsX7_add := by decide +kernel
  refine lv_aload_n hx hb dX7_add_0 rfl (lv_at hl 0 rfl) ?_
  refine r_get C h 0 rfl (Cn := RX7) (T := TX7) (N := 3) rfl hinX7 2 (by decide) (index := 18) (ref := "ScaleHouse$Tally") wd0 rfl (v := .int (nI n)) rfl dX7_add_1 ?_
  refine lv_bipush (v := 20) hx hb dX7_add_4 (by decide) ?_
  refine lv_icmp_lt (tgt := 11) hx hb dX7_add_6 (by decide) (fun c_6 => ?_) (fun c_6 => ?_)
  · have hlt : n < 20 := (nI_ltI (b := 20) (by omega) (by decide)).mp c_6
    refine lv_aload_n hx hb dX7_add_11 rfl (lv_at hl 0 rfl) ?_
    refine r_get C h 0 rfl (Cn := RX7) (T := TX7) (N := 3) rfl hinX7 0 (by decide) (index := 9) (ref := "ScaleHouse$Tally") wd1 rfl (v := .ref h1) rfl dX7_add_12 ?_
    refine lv_aload_n hx hb dX7_add_15 rfl (lv_at hl 0 rfl) ?_
    refine r_get C h 0 rfl (Cn := RX7) (T := TX7) (N := 3) rfl hinX7 2 (by decide) (index := 18) (ref := "ScaleHouse$Tally") wd0 rfl (v := .int (nI n)) rfl dX7_add_16 ?_
    refine lv_iload_n hx hb dX7_add_19 rfl (lv_at hl 1 rfl) ?_
    refine r_iast C h 1 rfl (i := (nI n)) (vp_in_nI hlt (by decide)) dX7_add_20 (fun H locs h => ?_)
    have h : gS G A s ([(h0, .inr (7, [.ref h1, .ref h2, .int (nI n)])), (h1, .inl (G.2.2 1, 20, .inl (upd a (nI n).toNatClampNeg x))), (h2, .inl (G.2.2 1, 20, .inl b))]) H locs := h
    rw [show (upd a (nI n).toNatClampNeg x) = (upd a n x) from nn_up a (by omega) _] at h
    have h : gS G A s ([(h0, .inr (7, [.ref h1, .ref h2, .int (nI n)])), (h1, .inl (G.2.2 1, 20, .inl (upd a n x))), (h2, .inl (G.2.2 1, 20, .inl b))]) H locs := h
    refine lv_aload_n hx hb dX7_add_21 rfl (lv_at hl 0 rfl) ?_
    refine r_get C h 0 rfl (Cn := RX7) (T := TX7) (N := 3) rfl hinX7 1 (by decide) (index := 15) (ref := "ScaleHouse$Tally") wd2 rfl (v := .ref h2) rfl dX7_add_22 ?_
    refine lv_aload_n hx hb dX7_add_25 rfl (lv_at hl 0 rfl) ?_
    refine r_get C h 0 rfl (Cn := RX7) (T := TX7) (N := 3) rfl hinX7 2 (by decide) (index := 18) (ref := "ScaleHouse$Tally") wd0 rfl (v := .int (nI n)) rfl dX7_add_26 ?_
    refine lv_iload_n hx hb dX7_add_29 rfl (lv_at hl 2 rfl) ?_
    refine r_iast C h 2 rfl (i := (nI n)) (vp_in_nI hlt (by decide)) dX7_add_30 (fun H locs h => ?_)
    have h : gS G A s ([(h0, .inr (7, [.ref h1, .ref h2, .int (nI n)])), (h1, .inl (G.2.2 1, 20, .inl (upd a n x))), (h2, .inl (G.2.2 1, 20, .inl (upd b (nI n).toNatClampNeg y)))]) H locs := h
    rw [show (upd b (nI n).toNatClampNeg y) = (upd b n y) from nn_up b (by omega) _] at h
    have h : gS G A s ([(h0, .inr (7, [.ref h1, .ref h2, .int (nI n)])), (h1, .inl (G.2.2 1, 20, .inl (upd a n x))), (h2, .inl (G.2.2 1, 20, .inl (upd b n y)))]) H locs := h
    refine lv_aload_n hx hb dX7_add_31 rfl (lv_at hl 0 rfl) ?_
    refine lv_dup hx hb dX7_add_32 rfl ?_
    refine r_get C h 0 rfl (Cn := RX7) (T := TX7) (N := 3) rfl hinX7 2 (by decide) (index := 18) (ref := "ScaleHouse$Tally") wd0 rfl (v := .int (nI n)) rfl dX7_add_33 ?_
    refine lv_dup_x1 hx hb dX7_add_36 rfl rfl ?_
    refine lv_iconst (v := 1) hx hb dX7_add_37 (by decide) ?_
    refine lv_iadd hx hb dX7_add_38 ?_
    refine r_put C h 0 rfl (Cn := RX7) (T := TX7) (N := 3) rfl hinX7 tyX7 tyX7_ok nmX7 2 (by decide) (index := 18) (ref := "ScaleHouse$Tally") wd0 rfl rfl (v := .int ((nI n) + 1)) rfl rfl (show 2 < 3 by decide) dX7_add_39 (fun H locs h => ?_)
    have h : gS G A s ([(h0, .inr (7, [.ref h1, .ref h2, .int ((nI n) + 1)])), (h1, .inl (G.2.2 1, 20, .inl (upd a n x))), (h2, .inl (G.2.2 1, 20, .inl (upd b n y)))]) H locs := h
    exact r_iret C h hr hlk (Nat.zero_le _) (Nat.zero_le _) () (by rw [if_pos hlt]) (by simp only [tyN, tyU, if_pos hlt, nI_1]) dX7_add_42
  · have hge : ¬ n < 20 := fun z => c_6 (nI_lt (b := 20) z (by decide))
    refine lv_iconst (v := -1) hx hb dX7_add_9 (by decide) ?_
    exact r_iret C h hr hlk (Nat.zero_le _) (Nat.zero_le _) () (by rw [if_neg hge]) (by simp only [tyN, tyU, if_neg hge]) dX7_add_10
