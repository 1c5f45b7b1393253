/-! ===== java.lang.Math.floorDiv; ScaleHouse$Reckoner ===== -/
theorem met_ofWF {l : Launch} {y : MethodName} {ws ws' : List Cond} {rm : Room} {Pc : Array Value → State → Prop} {Qc : Array Value → State → Outcome → State → Prop} {mc ms : Nat} {free : Addr → Prop} {cc : ByteArray} {maxL : Nat} {ret : Option FieldType}
    (hy : plainFor y = true) (hw : ws = Cond.code y cc maxL ret :: ws')
    (body : ∀ p e s m args below meth c s₁, BodyLoose p l y (headSpec ws rm) cc maxL ret e s m args below meth c s₁ → c.maxLocals = maxL → Pc args s →
      W p l e (headSpec ws rm).room s m args below meth c s.heap [] 0 0 (MQ below Qc args s mc ms free) (entryFrame m args maxL)) : Met l y ws rm Pc Qc mc ms free := by
  refine MetFree.of_bodySF (code := cc) (maxLocals := maxL) (ret := ret) hy ?_ ?_
  · intro args s m h hn
    obtain ⟨meth, c, h1, h2, h3, h4, h5, h6, -, -⟩ := Cond.code_spec hn (atoms_spec (ws := ws) h _ (by rw [hw]; exact List.mem_cons_self))
    exact ⟨meth, c, h1, h2, h3, h4, h5, h6⟩
  · intro p e s m args below meth c s₁ B hml hP _
    have hh0 : s₁.heap = s.heap := by rw [B.state]; rfl
    obtain ⟨t, a1, o, b1, b2, b3⟩ := body p e s m args below meth c s₁ B hml hP s₁ hh0 (Stand.of_body B)
    exact ⟨t, o, a1, b1, b2, ⟨b3.1, b3.2⟩⟩
theorem o_MF {l : Launch} {y : MethodName} {wsC wsC' : List Cond} {av : List Value} {cc : ByteArray} {maxL fr lo mc ms : Nat} {ret : Option FieldType} {own : String} {G : gG} {ws : va_W} {Qc : (Nat → Prop) → Array Value → State → Outcome → State → Prop} (hy : plainFor y = true) (hw : wsC = Cond.code y cc maxL ret :: wsC') (hown : y.cls = own) (hlen : (lg_sl av).length ≤ maxL)
    (body : ∀ (p : Program) (e : Env) (s : State) (m : MethodId) (below : List Frame) (meth : Method) (c : Code) (A : Nat → Prop) (ls : Array Slot) (H : Heap) (locs : List Loc), A = va_A ws s.heap.size → gC p m c cc maxL s av.toArray wsC own G A → gS G A s ws H locs → meth.sig.returnType = ret → meth.locks = false → meth.name = y.name → lv_has ls maxL (lv_args 0 av) →
      W p l e (gR fr lo mc ms) s m av.toArray below meth c H locs 0 0 (MQ below (Qc A) av.toArray s mc ms A) (F0 m 0 ls [])) : cM l y wsC fr lo mc ms G av ws Qc := by
  intro sz
  refine met_ofWF (cc := cc) (maxL := maxL) (ret := ret) hy hw ?_
  intro p e s m args below meth c s₁ B hml hv
  obtain ⟨rfl, hsz, hP, hD0, hK⟩ := hv
  subst hsz
  subst hown
  have hl := lv_entry av (n := maxL) hlen
  rw [lg_entry_eq]
  generalize (lg_sl av ++ List.replicate (maxL - (lg_sl av).length) Slot.unset).toArray = ls at hl ⊢
  exact body p e s m below meth c (va_A ws s.heap.size) ls s.heap [] rfl ⟨⟨⟨B.exec, B.bytes, hml, findClass_of_methodNamed B.named, atoms_spec (ws := wsC) B.pre⟩, hK⟩, fun q z => Or.inr z⟩ ⟨hP, hD0.self, va_S.rf⟩ B.returns B.notSynchronized (name_of_methodNamed B.named B.method).1 hl
def fdv (x y : Int64) : Int64 := if 0 ≤ x ^^^ y then x / y else if x / y * y = x then x / y else x / y - 1
def bd (x : Int64) : Int64 := if x ≤ 1000000000 then (if -1000000000 ≤ x then x else -1000000000) else 1000000000
def rTk (p : Int64) (g : Int32) (v : Int64) : Int64 := if g = 42 then bd (p * v) else if v = 0 then 0 else bd (fdv p v)
def rSm (a p : Int64) (g : Int32) : Int64 := if g = 43 then bd (a + p) else bd (a - p)
abbrev RS : Type := Nat × (Nat → Int64) × (Nat → Int64) × (Nat → Int32) × (Nat → Int32)
def rTake (v : Int64) (z : RS) : RS := (z.1, z.2.1, vp_updL z.2.2.1 z.1 (rTk (z.2.2.1 z.1) (z.2.2.2.2 z.1) v), z.2.2.2.1, z.2.2.2.2)
def rBeg (d : Nat) (z : RS) : RS := (d, vp_updL z.2.1 d 0, vp_updL z.2.2.1 d 1, upd z.2.2.2.1 d 43, upd z.2.2.2.2 d 42)
def rSum (z : RS) : Int64 := rSm (z.2.1 z.1) (z.2.2.1 z.1) (z.2.2.2.1 z.1)
def rAdd (g : Int32) (z : RS) : RS := (z.1, vp_updL z.2.1 z.1 (rSum z), vp_updL z.2.2.1 z.1 1, upd z.2.2.2.1 z.1 g, upd z.2.2.2.2 z.1 42)
def rMul (g : Int32) (z : RS) : RS := (z.1, z.2.1, z.2.2.1, z.2.2.2.1, upd z.2.2.2.2 z.1 g)
def rSt (dd ll t : Int32) (z : RS) : RS :=
  if -t = 40 then (if z.1 < 8 then rBeg (z.1 + 1) z else z)
  else if -t = 41 then (if 0 < z.1 then rTake (rSum z) (z.1 - 1, z.2) else z)
  else if -t = 42 then rMul (-t) z else if -t = 43 then rAdd (-t) z else if -t = 45 then rAdd (-t) z else if -t = 47 then rMul (-t) z
  else if -t = 100 then rTake dd.toInt64 z else if -t = 108 then rTake ll.toInt64 z else rTake t.toInt64 z
def rkF (tk : Nat → Int32) (dd ll : Int32) : Nat → Nat → RS → RS
  | 0, _, z => z
  | r + 1, i, z => rkF tk dd ll r (i + 1) (rSt dd ll (tk i) z)
theorem nn_atL (f : Nat → Int64) {n : Nat} (h : n < 2 ^ 31) : f (nI n).toNatClampNeg = f n := by rw [nI_clamp h]
theorem nn_upL (f : Nat → Int64) {n : Nat} (h : n < 2 ^ 31) (x : Int64) : vp_updL f (nI n).toNatClampNeg x = vp_updL f n x := by rw [nI_clamp h]
theorem rSt_le (dd ll t : Int32) (z : RS) (h : z.1 ≤ 8) : (rSt dd ll t z).1 ≤ 8 := by
  unfold rSt
  repeat' split
  all_goals first | (simp only [rBeg]; omega) | (simp only [rTake]; omega) | (simp only [rMul]; exact h) | (simp only [rAdd]; exact h) | exact h

set_option maxHeartbeats 4000000 in
set_option maxRecDepth 100000 in
theorem j_floorDiv (l : Launch) (G : gG) (x y : Int64) (hy : ¬ y = 0) : cM l yJ9_floorDiv_f86c9 wsJ9_floorDiv_f86c9 0 0 (0) (0) G [.long x, .long y] ([]) (qL G (S := Unit) (fun r _ => r = fdv x y) (fun _ => [])) := by
  refine o_MF (cc := cJ9_floorDiv_f86c9) (maxL := 6) (ret := (some .long)) (own := RJ9) (by decide +kernel) rfl rfl (Nat.le_of_ble_eq_true rfl) ?_
  intro p e s m below meth c A ls H locs hA C h hr hlk hnm hl
  have hx := C.1.1.1
  have hb := C.1.1.2.1
  have hl : lv_has ls 6 [(0, .long x), (2, .long y)] := hl
  refine lv_lload_n hx hb dJ9_floorDiv_f86c9_0 rfl (lv_at hl 0 rfl) ?_
  refine lv_lload_n hx hb dJ9_floorDiv_f86c9_1 rfl (lv_at hl 1 rfl) ?_
  refine lv_ldiv hx hb dJ9_floorDiv_f86c9_2 (hy) ?_
  refine lv_lstore (lv' := [(4, .long (x / y)), (0, .long x), (2, .long y)]) hx hb dJ9_floorDiv_f86c9_3 hl (by decide) rfl (fun ls hl => ?_)
  refine lv_lload_n hx hb dJ9_floorDiv_f86c9_5 rfl (lv_at hl 1 rfl) ?_
  refine lv_lload_n hx hb dJ9_floorDiv_f86c9_6 rfl (lv_at hl 2 rfl) ?_
  refine lv_lxor hx hb dJ9_floorDiv_f86c9_7 ?_
  refine lv_lconst (v := 0) hx hb dJ9_floorDiv_f86c9_8 (by decide) ?_
  refine W.lcmp hx hb dJ9_floorDiv_f86c9_9 ?_
  refine lv_if_ge (tgt := 27) hx hb dJ9_floorDiv_f86c9_10 (by decide) (fun c_10 => ?_) (fun c_10 => ?_)
  · rw [lg_cmp_ge] at c_10
    refine lv_lload hx hb dJ9_floorDiv_f86c9_27 (lv_at hl 0 rfl) ?_
    exact r_lret C h hr hlk (Nat.zero_le _) (Nat.zero_le _) () (by simp only [fdv, if_pos c_10]) (rfl) dJ9_floorDiv_f86c9_29
  · rw [lg_cmp_ge] at c_10
    refine lv_lload hx hb dJ9_floorDiv_f86c9_13 (lv_at hl 0 rfl) ?_
    refine lv_lload_n hx hb dJ9_floorDiv_f86c9_15 rfl (lv_at hl 2 rfl) ?_
    refine lv_lmul hx hb dJ9_floorDiv_f86c9_16 ?_
    refine lv_lload_n hx hb dJ9_floorDiv_f86c9_17 rfl (lv_at hl 1 rfl) ?_
    refine W.lcmp hx hb dJ9_floorDiv_f86c9_18 ?_
    refine lv_if_eq (tgt := 27) hx hb dJ9_floorDiv_f86c9_19 (by decide) (fun c_19 => ?_) (fun c_19 => ?_)
    · rw [lg_cmp_eq] at c_19
      refine lv_lload hx hb dJ9_floorDiv_f86c9_27 (lv_at hl 0 rfl) ?_
      exact r_lret C h hr hlk (Nat.zero_le _) (Nat.zero_le _) () (by simp only [fdv, if_neg c_10, if_pos c_19]) (rfl) dJ9_floorDiv_f86c9_29
    · rw [lg_cmp_eq] at c_19
      refine lv_lload hx hb dJ9_floorDiv_f86c9_22 (lv_at hl 0 rfl) ?_
      refine lv_lconst (v := 1) hx hb dJ9_floorDiv_f86c9_24 (by decide) ?_
      refine lv_lsub hx hb dJ9_floorDiv_f86c9_25 ?_
      exact r_lret C h hr hlk (Nat.zero_le _) (Nat.zero_le _) () (by simp only [fdv, if_neg c_10, if_neg c_19]) (rfl) dJ9_floorDiv_f86c9_26

set_option maxHeartbeats 4000000 in
set_option maxRecDepth 100000 in
theorem q_bounded (l : Launch) (G : gG) (x : Int64) : cM l yX5_bounded wsX5_bounded 0 0 (0) (0) G [.long x] ([]) (qL G (S := Unit) (fun r _ => r = bd x) (fun _ => [])) := by
  refine o_M (cc := cX5_bounded) (maxL := 2) (ret := (some .long)) (own := RX5) (by decide +kernel) rfl rfl (Nat.le_of_ble_eq_true rfl) ?_
  intro p e s m below meth c A ls H locs hA C h hr hlk hnm hl
  have hx := C.1.1.1
  have hb := C.1.1.2.1
  have hl : lv_has ls 2 [(0, .long x)] := hl
  have wd0 : Cond.constantLong RX5 53 (1000000000) ∈ wsX5_bounded := by decide +kernel
  have wd1 : Cond.constantLong RX5 55 (-1000000000) ∈ wsX5_bounded := by decide +kernel
  refine lv_lload_n hx hb dX5_bounded_0 rfl (lv_at hl 0 rfl) ?_
  refine r_ldc2 C (v := 1000000000) wd0 dX5_bounded_1 ?_
  refine W.lcmp hx hb dX5_bounded_4 ?_
  refine lv_if_le (tgt := 12) hx hb dX5_bounded_5 (by decide) (fun c_5 => ?_) (fun c_5 => ?_)
  · rw [lg_cmp_le] at c_5
    refine lv_lload_n hx hb dX5_bounded_12 rfl (lv_at hl 0 rfl) ?_
    refine r_ldc2 C (v := -1000000000) wd1 dX5_bounded_13 ?_
    refine W.lcmp hx hb dX5_bounded_16 ?_
    refine lv_if_ge (tgt := 26) hx hb dX5_bounded_17 (by decide) (fun c_17 => ?_) (fun c_17 => ?_)
    · rw [lg_cmp_ge] at c_17
      refine lv_lload_n hx hb dX5_bounded_26 rfl (lv_at hl 0 rfl) ?_
      exact r_lret C h hr hlk (Nat.zero_le _) (Nat.zero_le _) () (by simp only [bd, if_pos c_5, if_pos c_17]) (rfl) dX5_bounded_27
    · rw [lg_cmp_ge] at c_17
      refine r_ldc2 C (v := -1000000000) wd1 dX5_bounded_20 ?_
      refine lv_goto (tgt := 27) hx hb dX5_bounded_23 (by decide) ?_
      exact r_lret C h hr hlk (Nat.zero_le _) (Nat.zero_le _) () (by simp only [bd, if_pos c_5, if_neg c_17]) (rfl) dX5_bounded_27
  · rw [lg_cmp_le] at c_5
    refine r_ldc2 C (v := 1000000000) wd0 dX5_bounded_8 ?_
    exact r_lret C h hr hlk (Nat.zero_le _) (Nat.zero_le _) () (by simp only [bd, if_neg c_5]) (rfl) dX5_bounded_11

set_option maxHeartbeats 4000000 in
set_option maxRecDepth 100000 in
theorem q_init (l : Launch) (G : gG) (h0 : Nat) : cM l yX5_init wsX5_init 1 20 (4) (36) G [.ref h0] ([(h0, .inr (5, [.null, .null, .null, .null, .int 0]))]) (qV G (S := Nat × Nat × Nat × Nat) (fun _ => True) (fun u => [(h0, .inr (5, [.ref u.1, .ref u.2.1, .ref u.2.2.1, .ref u.2.2.2, .int (nI 0)])), (u.1, .inl (G.2.2 2, 9, .inr (.inl (fun _ => 0)))), (u.2.1, .inl (G.2.2 2, 9, .inr (.inl (fun _ => 0)))), (u.2.2.1, .inl (G.2.2 1, 9, .inl (fun _ => 0))), (u.2.2.2, .inl (G.2.2 1, 9, .inl (fun _ => 0)))])) := by
  refine o_M (cc := cX5_init) (maxL := 1) (ret := none) (own := RX5) (by decide +kernel) rfl rfl (Nat.le_of_ble_eq_true rfl) ?_
  intro p e s m below meth c A ls H locs hA C h hr hlk hnm hl
  have hx := C.1.1.1
  have hb := C.1.1.2.1
  have hl : lv_has ls 1 [(0, .ref h0)] := hl
  have wd0 : Cond.methodLink RX5 3 objectInit ∈ wsX5_init := by decide +kernel
  have wd1 : Cond.instanceMethod objectInit ∈ wsX5_init := by decide +kernel
  have wd2 : Cond.code objectInit ⟨#[0xb1]⟩ 1 none ∈ wsX5_init := by decide +kernel
  have wd3 : Cond.arrayClass .long ∈ wsX5_init := by decide +kernel
  have wd4 : Cond.fieldLink RX5 9 "ScaleHouse$Reckoner" "sums" "[J" ∈ wsX5_init := by decide +kernel
  have hinX5 : ∀ w ∈ wsX50, w ∈ wsX5_init := by decide +kernel
  have wd5 : Cond.fieldLink RX5 15 "ScaleHouse$Reckoner" "products" "[J" ∈ wsX5_init := by decide +kernel
  have wd6 : Cond.arrayClass .int ∈ wsX5_init := by decide +kernel
  have wd7 : Cond.fieldLink RX5 18 "ScaleHouse$Reckoner" "sumSigns" "[I" ∈ wsX5_init := by decide +kernel
  have wd8 : Cond.fieldLink RX5 22 "ScaleHouse$Reckoner" "productSigns" "[I" ∈ wsX5_init := by decide +kernel
  have wd9 : Cond.fieldLink RX5 25 "ScaleHouse$Reckoner" "depth" "I" ∈ wsX5_init := by decide +kernel
  refine lv_aload_n hx hb dX5_init_0 rfl (lv_at hl 0 rfl) ?_
  refine r_objInit C wd0 wd1 wd2 hl.1 dX5_init_1 (Nat.le_of_ble_eq_true rfl) (Nat.le_of_ble_eq_true rfl) ?_
  refine lv_aload_n hx hb dX5_init_4 rfl (lv_at hl 0 rfl) ?_
  refine lv_bipush (v := 9) hx hb dX5_init_5 (by decide) ?_
  refine r_newa C h (ty := .long) rfl 2 (cA := G.2.2 2) rfl (fun z => z) wd3 (n := 9) (N' := 9) (a0 := (9, .inr (.inl (fun _ => 0)))) (fun _ => rfl) (by decide) (rfl) (by decide) (Nat.le_of_ble_eq_true rfl) (Nat.le_of_ble_eq_true rfl) dX5_init_7 (fun q1 H h => ?_)
  refine W.widen (k := 1) (n := 9) (Nat.le_of_ble_eq_true rfl) (Nat.le_of_ble_eq_true rfl) ?_
  have h : gS G A s ([(h0, .inr (5, [.null, .null, .null, .null, .int 0])), (q1, .inl (G.2.2 2, 9, .inr (.inl (fun _ => 0))))]) H locs := h
  refine r_putF C h 0 rfl (Cn := RX5) (T := TX5) (N := 5) rfl hinX5 tyX5 tyX5_ok nmX5 0 (by decide) (index := 9) (ref := "ScaleHouse$Reckoner") wd4 rfl rfl hnm rfl (v := .ref q1) rfl rfl (show 0 < 5 by decide) dX5_init_9 (fun H locs h => ?_)
  have h : gS G A s ([(h0, .inr (5, [.ref q1, .null, .null, .null, .int 0])), (q1, .inl (G.2.2 2, 9, .inr (.inl (fun _ => 0))))]) H locs := h
  refine lv_aload_n hx hb dX5_init_12 rfl (lv_at hl 0 rfl) ?_
  refine lv_bipush (v := 9) hx hb dX5_init_13 (by decide) ?_
  refine r_newa C h (ty := .long) rfl 2 (cA := G.2.2 2) rfl (fun z => z) wd3 (n := 9) (N' := 9) (a0 := (9, .inr (.inl (fun _ => 0)))) (fun _ => rfl) (by decide) (rfl) (by decide) (Nat.le_of_ble_eq_true rfl) (Nat.le_of_ble_eq_true rfl) dX5_init_15 (fun q2 H h => ?_)
  refine W.widen (k := 2) (n := 18) (Nat.le_of_ble_eq_true rfl) (Nat.le_of_ble_eq_true rfl) ?_
  have h : gS G A s ([(h0, .inr (5, [.ref q1, .null, .null, .null, .int 0])), (q1, .inl (G.2.2 2, 9, .inr (.inl (fun _ => 0)))), (q2, .inl (G.2.2 2, 9, .inr (.inl (fun _ => 0))))]) H locs := h
  refine r_putF C h 0 rfl (Cn := RX5) (T := TX5) (N := 5) rfl hinX5 tyX5 tyX5_ok nmX5 1 (by decide) (index := 15) (ref := "ScaleHouse$Reckoner") wd5 rfl rfl hnm rfl (v := .ref q2) rfl rfl (show 1 < 5 by decide) dX5_init_17 (fun H locs h => ?_)
  have h : gS G A s ([(h0, .inr (5, [.ref q1, .ref q2, .null, .null, .int 0])), (q1, .inl (G.2.2 2, 9, .inr (.inl (fun _ => 0)))), (q2, .inl (G.2.2 2, 9, .inr (.inl (fun _ => 0))))]) H locs := h
  refine lv_aload_n hx hb dX5_init_20 rfl (lv_at hl 0 rfl) ?_
  refine lv_bipush (v := 9) hx hb dX5_init_21 (by decide) ?_
  refine r_newa C h (ty := .int) rfl 1 (cA := G.2.2 1) rfl (fun z => z) wd6 (n := 9) (N' := 9) (a0 := (9, .inl (fun _ => 0))) (fun _ => rfl) (by decide) (rfl) (by decide) (Nat.le_of_ble_eq_true rfl) (Nat.le_of_ble_eq_true rfl) dX5_init_23 (fun q3 H h => ?_)
  refine W.widen (k := 3) (n := 27) (Nat.le_of_ble_eq_true rfl) (Nat.le_of_ble_eq_true rfl) ?_
  have h : gS G A s ([(h0, .inr (5, [.ref q1, .ref q2, .null, .null, .int 0])), (q1, .inl (G.2.2 2, 9, .inr (.inl (fun _ => 0)))), (q2, .inl (G.2.2 2, 9, .inr (.inl (fun _ => 0)))), (q3, .inl (G.2.2 1, 9, .inl (fun _ => 0)))]) H locs := h
  refine r_putF C h 0 rfl (Cn := RX5) (T := TX5) (N := 5) rfl hinX5 tyX5 tyX5_ok nmX5 2 (by decide) (index := 18) (ref := "ScaleHouse$Reckoner") wd7 rfl rfl hnm rfl (v := .ref q3) rfl rfl (show 2 < 5 by decide) dX5_init_25 (fun H locs h => ?_)
  have h : gS G A s ([(h0, .inr (5, [.ref q1, .ref q2, .ref q3, .null, .int 0])), (q1, .inl (G.2.2 2, 9, .inr (.inl (fun _ => 0)))), (q2, .inl (G.2.2 2, 9, .inr (.inl (fun _ => 0)))), (q3, .inl (G.2.2 1, 9, .inl (fun _ => 0)))]) H locs := h
  refine lv_aload_n hx hb dX5_init_28 rfl (lv_at hl 0 rfl) ?_
  refine lv_bipush (v := 9) hx hb dX5_init_29 (by decide) ?_
  refine r_newa C h (ty := .int) rfl 1 (cA := G.2.2 1) rfl (fun z => z) wd6 (n := 9) (N' := 9) (a0 := (9, .inl (fun _ => 0))) (fun _ => rfl) (by decide) (rfl) (by decide) (Nat.le_of_ble_eq_true rfl) (Nat.le_of_ble_eq_true rfl) dX5_init_31 (fun q4 H h => ?_)
  refine W.widen (k := 4) (n := 36) (Nat.le_of_ble_eq_true rfl) (Nat.le_of_ble_eq_true rfl) ?_
  have h : gS G A s ([(h0, .inr (5, [.ref q1, .ref q2, .ref q3, .null, .int 0])), (q1, .inl (G.2.2 2, 9, .inr (.inl (fun _ => 0)))), (q2, .inl (G.2.2 2, 9, .inr (.inl (fun _ => 0)))), (q3, .inl (G.2.2 1, 9, .inl (fun _ => 0))), (q4, .inl (G.2.2 1, 9, .inl (fun _ => 0)))]) H locs := h
  refine r_putF C h 0 rfl (Cn := RX5) (T := TX5) (N := 5) rfl hinX5 tyX5 tyX5_ok nmX5 3 (by decide) (index := 22) (ref := "ScaleHouse$Reckoner") wd8 rfl rfl hnm rfl (v := .ref q4) rfl rfl (show 3 < 5 by decide) dX5_init_33 (fun H locs h => ?_)
  have h : gS G A s ([(h0, .inr (5, [.ref q1, .ref q2, .ref q3, .ref q4, .int 0])), (q1, .inl (G.2.2 2, 9, .inr (.inl (fun _ => 0)))), (q2, .inl (G.2.2 2, 9, .inr (.inl (fun _ => 0)))), (q3, .inl (G.2.2 1, 9, .inl (fun _ => 0))), (q4, .inl (G.2.2 1, 9, .inl (fun _ => 0)))]) H locs := h
  refine lv_aload_n hx hb dX5_init_36 rfl (lv_at hl 0 rfl) ?_
  refine lv_iconst (v := 0) hx hb dX5_init_37 (by decide) ?_
  refine r_put C h 0 rfl (Cn := RX5) (T := TX5) (N := 5) rfl hinX5 tyX5 tyX5_ok nmX5 4 (by decide) (index := 25) (ref := "ScaleHouse$Reckoner") wd9 rfl rfl (v := .int 0) rfl rfl (show 4 < 5 by decide) dX5_init_38 (fun H locs h => ?_)
  have h : gS G A s ([(h0, .inr (5, [.ref q1, .ref q2, .ref q3, .ref q4, .int 0])), (q1, .inl (G.2.2 2, 9, .inr (.inl (fun _ => 0)))), (q2, .inl (G.2.2 2, 9, .inr (.inl (fun _ => 0)))), (q3, .inl (G.2.2 1, 9, .inl (fun _ => 0))), (q4, .inl (G.2.2 1, 9, .inl (fun _ => 0)))]) H locs := h
  exact r_vret C h hr hlk (Nat.le_refl _) (Nat.le_refl _) (q1, q2, q3, q4) (trivial) (rfl) dX5_init_41

set_option maxHeartbeats 4000000 in
set_option maxRecDepth 100000 in
theorem q_beginProduct (l : Launch) (G : gG) (h0 h1 h2 h3 h4 d : Nat) (S P : Nat → Int64) (sg pg : Nat → Int32) (hd : d ≤ 8) : cM l yX5_beginProduct wsX5_beginProduct 0 0 (0) (0) G [.ref h0] ([(h0, .inr (5, [.ref h1, .ref h2, .ref h3, .ref h4, .int (nI d)])), (h1, .inl (G.2.2 2, 9, .inr (.inl S))), (h2, .inl (G.2.2 2, 9, .inr (.inl P))), (h3, .inl (G.2.2 1, 9, .inl sg)), (h4, .inl (G.2.2 1, 9, .inl pg))]) (qV G (S := Unit) (fun _ => True) (fun _ => [(h0, .inr (5, [.ref h1, .ref h2, .ref h3, .ref h4, .int (nI d)])), (h1, .inl (G.2.2 2, 9, .inr (.inl S))), (h2, .inl (G.2.2 2, 9, .inr (.inl (vp_updL P d 1)))), (h3, .inl (G.2.2 1, 9, .inl sg)), (h4, .inl (G.2.2 1, 9, .inl (upd pg d 42)))])) := by
  refine o_M (cc := cX5_beginProduct) (maxL := 1) (ret := none) (own := RX5) (by decide +kernel) rfl rfl (Nat.le_of_ble_eq_true rfl) ?_
  intro p e s m below meth c A ls H locs hA C h hr hlk hnm hl
  have hx := C.1.1.1
  have hb := C.1.1.2.1
  have hl : lv_has ls 1 [(0, .ref h0)] := hl
  have wd0 : Cond.fieldLink RX5 15 "ScaleHouse$Reckoner" "products" "[J" ∈ wsX5_beginProduct := by decide +kernel
  have hinX5 : ∀ w ∈ wsX50, w ∈ wsX5_beginProduct := by decide +kernel
  have wd1 : Cond.fieldLink RX5 25 "ScaleHouse$Reckoner" "depth" "I" ∈ wsX5_beginProduct := by decide +kernel
  have wd2 : Cond.fieldLink RX5 22 "ScaleHouse$Reckoner" "productSigns" "[I" ∈ wsX5_beginProduct := by decide +kernel
  refine lv_aload_n hx hb dX5_beginProduct_0 rfl (lv_at hl 0 rfl) ?_
  refine r_get C h 0 rfl (Cn := RX5) (T := TX5) (N := 5) rfl hinX5 1 (by decide) (index := 15) (ref := "ScaleHouse$Reckoner") wd0 rfl (v := .ref h2) rfl dX5_beginProduct_1 ?_
  refine lv_aload_n hx hb dX5_beginProduct_4 rfl (lv_at hl 0 rfl) ?_
  refine r_get C h 0 rfl (Cn := RX5) (T := TX5) (N := 5) rfl hinX5 4 (by decide) (index := 25) (ref := "ScaleHouse$Reckoner") wd1 rfl (v := .int (nI d)) rfl dX5_beginProduct_5 ?_
  refine lv_lconst (v := 1) hx hb dX5_beginProduct_8 (by decide) ?_
  refine r_last C h 2 rfl (i := (nI d)) (vp_in_nI (by omega) (by decide)) dX5_beginProduct_9 (fun H locs h => ?_)
  have h : gS G A s ([(h0, .inr (5, [.ref h1, .ref h2, .ref h3, .ref h4, .int (nI d)])), (h1, .inl (G.2.2 2, 9, .inr (.inl S))), (h2, .inl (G.2.2 2, 9, .inr (.inl (vp_updL P (nI d).toNatClampNeg 1)))), (h3, .inl (G.2.2 1, 9, .inl sg)), (h4, .inl (G.2.2 1, 9, .inl pg))]) H locs := h
  rw [show (vp_updL P (nI d).toNatClampNeg 1) = (vp_updL P d 1) from nn_upL P (by omega) _] at h
  have h : gS G A s ([(h0, .inr (5, [.ref h1, .ref h2, .ref h3, .ref h4, .int (nI d)])), (h1, .inl (G.2.2 2, 9, .inr (.inl S))), (h2, .inl (G.2.2 2, 9, .inr (.inl (vp_updL P d 1)))), (h3, .inl (G.2.2 1, 9, .inl sg)), (h4, .inl (G.2.2 1, 9, .inl pg))]) H locs := h
  refine lv_aload_n hx hb dX5_beginProduct_10 rfl (lv_at hl 0 rfl) ?_
  refine r_get C h 0 rfl (Cn := RX5) (T := TX5) (N := 5) rfl hinX5 3 (by decide) (index := 22) (ref := "ScaleHouse$Reckoner") wd2 rfl (v := .ref h4) rfl dX5_beginProduct_11 ?_
  refine lv_aload_n hx hb dX5_beginProduct_14 rfl (lv_at hl 0 rfl) ?_
  refine r_get C h 0 rfl (Cn := RX5) (T := TX5) (N := 5) rfl hinX5 4 (by decide) (index := 25) (ref := "ScaleHouse$Reckoner") wd1 rfl (v := .int (nI d)) rfl dX5_beginProduct_15 ?_
  refine lv_bipush (v := 42) hx hb dX5_beginProduct_18 (by decide) ?_
  refine r_iast C h 4 rfl (i := (nI d)) (vp_in_nI (by omega) (by decide)) dX5_beginProduct_20 (fun H locs h => ?_)
  have h : gS G A s ([(h0, .inr (5, [.ref h1, .ref h2, .ref h3, .ref h4, .int (nI d)])), (h1, .inl (G.2.2 2, 9, .inr (.inl S))), (h2, .inl (G.2.2 2, 9, .inr (.inl (vp_updL P d 1)))), (h3, .inl (G.2.2 1, 9, .inl sg)), (h4, .inl (G.2.2 1, 9, .inl (upd pg (nI d).toNatClampNeg 42)))]) H locs := h
  rw [show (upd pg (nI d).toNatClampNeg 42) = (upd pg d 42) from nn_up pg (by omega) _] at h
  have h : gS G A s ([(h0, .inr (5, [.ref h1, .ref h2, .ref h3, .ref h4, .int (nI d)])), (h1, .inl (G.2.2 2, 9, .inr (.inl S))), (h2, .inl (G.2.2 2, 9, .inr (.inl (vp_updL P d 1)))), (h3, .inl (G.2.2 1, 9, .inl sg)), (h4, .inl (G.2.2 1, 9, .inl (upd pg d 42)))]) H locs := h
  exact r_vret C h hr hlk (Nat.zero_le _) (Nat.zero_le _) () (trivial) (rfl) dX5_beginProduct_21

set_option maxHeartbeats 4000000 in
set_option maxRecDepth 100000 in
theorem q_begin (l : Launch) (G : gG) (h0 h1 h2 h3 h4 d : Nat) (S P : Nat → Int64) (sg pg : Nat → Int32) (hd : d ≤ 8) : cM l yX5_begin wsX5_begin 1 20 (0) (0) G [.ref h0] ([(h0, .inr (5, [.ref h1, .ref h2, .ref h3, .ref h4, .int (nI d)])), (h1, .inl (G.2.2 2, 9, .inr (.inl S))), (h2, .inl (G.2.2 2, 9, .inr (.inl P))), (h3, .inl (G.2.2 1, 9, .inl sg)), (h4, .inl (G.2.2 1, 9, .inl pg))]) (qV G (S := Unit) (fun _ => True) (fun _ => [(h0, .inr (5, [.ref h1, .ref h2, .ref h3, .ref h4, .int (nI d)])), (h1, .inl (G.2.2 2, 9, .inr (.inl (vp_updL S d 0)))), (h2, .inl (G.2.2 2, 9, .inr (.inl (vp_updL P d 1)))), (h3, .inl (G.2.2 1, 9, .inl (upd sg d 43))), (h4, .inl (G.2.2 1, 9, .inl (upd pg d 42)))])) := by
  refine o_M (cc := cX5_begin) (maxL := 1) (ret := none) (own := RX5) (by decide +kernel) rfl rfl (Nat.le_of_ble_eq_true rfl) ?_
  intro p e s m below meth c A ls H locs hA C h hr hlk hnm hl
  have hx := C.1.1.1
  have hb := C.1.1.2.1
  have hl : lv_has ls 1 [(0, .ref h0)] := hl
  have wd0 : Cond.fieldLink RX5 9 "ScaleHouse$Reckoner" "sums" "[J" ∈ wsX5_begin := by decide +kernel
  have hinX5 : ∀ w ∈ wsX50, w ∈ wsX5_begin := by decide +kernel
  have wd1 : Cond.fieldLink RX5 25 "ScaleHouse$Reckoner" "depth" "I" ∈ wsX5_begin := by decide +kernel
  have wd2 : Cond.fieldLink RX5 18 "ScaleHouse$Reckoner" "sumSigns" "[I" ∈ wsX5_begin := by decide +kernel
  refine lv_aload_n hx hb dX5_begin_0 rfl (lv_at hl 0 rfl) ?_
  refine r_get C h 0 rfl (Cn := RX5) (T := TX5) (N := 5) rfl hinX5 0 (by decide) (index := 9) (ref := "ScaleHouse$Reckoner") wd0 rfl (v := .ref h1) rfl dX5_begin_1 ?_
  refine lv_aload_n hx hb dX5_begin_4 rfl (lv_at hl 0 rfl) ?_
  refine r_get C h 0 rfl (Cn := RX5) (T := TX5) (N := 5) rfl hinX5 4 (by decide) (index := 25) (ref := "ScaleHouse$Reckoner") wd1 rfl (v := .int (nI d)) rfl dX5_begin_5 ?_
  refine lv_lconst (v := 0) hx hb dX5_begin_8 (by decide) ?_
  refine r_last C h 1 rfl (i := (nI d)) (vp_in_nI (by omega) (by decide)) dX5_begin_9 (fun H locs h => ?_)
  have h : gS G A s ([(h0, .inr (5, [.ref h1, .ref h2, .ref h3, .ref h4, .int (nI d)])), (h1, .inl (G.2.2 2, 9, .inr (.inl (vp_updL S (nI d).toNatClampNeg 0)))), (h2, .inl (G.2.2 2, 9, .inr (.inl P))), (h3, .inl (G.2.2 1, 9, .inl sg)), (h4, .inl (G.2.2 1, 9, .inl pg))]) H locs := h
  rw [show (vp_updL S (nI d).toNatClampNeg 0) = (vp_updL S d 0) from nn_upL S (by omega) _] at h
  have h : gS G A s ([(h0, .inr (5, [.ref h1, .ref h2, .ref h3, .ref h4, .int (nI d)])), (h1, .inl (G.2.2 2, 9, .inr (.inl (vp_updL S d 0)))), (h2, .inl (G.2.2 2, 9, .inr (.inl P))), (h3, .inl (G.2.2 1, 9, .inl sg)), (h4, .inl (G.2.2 1, 9, .inl pg))]) H locs := h
  refine lv_aload_n hx hb dX5_begin_10 rfl (lv_at hl 0 rfl) ?_
  refine r_get C h 0 rfl (Cn := RX5) (T := TX5) (N := 5) rfl hinX5 2 (by decide) (index := 18) (ref := "ScaleHouse$Reckoner") wd2 rfl (v := .ref h3) rfl dX5_begin_11 ?_
  refine lv_aload_n hx hb dX5_begin_14 rfl (lv_at hl 0 rfl) ?_
  refine r_get C h 0 rfl (Cn := RX5) (T := TX5) (N := 5) rfl hinX5 4 (by decide) (index := 25) (ref := "ScaleHouse$Reckoner") wd1 rfl (v := .int (nI d)) rfl dX5_begin_15 ?_
  refine lv_bipush (v := 43) hx hb dX5_begin_18 (by decide) ?_
  refine r_iast C h 3 rfl (i := (nI d)) (vp_in_nI (by omega) (by decide)) dX5_begin_20 (fun H locs h => ?_)
  have h : gS G A s ([(h0, .inr (5, [.ref h1, .ref h2, .ref h3, .ref h4, .int (nI d)])), (h1, .inl (G.2.2 2, 9, .inr (.inl (vp_updL S d 0)))), (h2, .inl (G.2.2 2, 9, .inr (.inl P))), (h3, .inl (G.2.2 1, 9, .inl (upd sg (nI d).toNatClampNeg 43))), (h4, .inl (G.2.2 1, 9, .inl pg))]) H locs := h
  rw [show (upd sg (nI d).toNatClampNeg 43) = (upd sg d 43) from nn_up sg (by omega) _] at h
  have h : gS G A s ([(h0, .inr (5, [.ref h1, .ref h2, .ref h3, .ref h4, .int (nI d)])), (h1, .inl (G.2.2 2, 9, .inr (.inl (vp_updL S d 0)))), (h2, .inl (G.2.2 2, 9, .inr (.inl P))), (h3, .inl (G.2.2 1, 9, .inl (upd sg d 43))), (h4, .inl (G.2.2 1, 9, .inl pg))]) H locs := h
  refine lv_aload_n hx hb dX5_begin_21 rfl (lv_at hl 0 rfl) ?_
  have hp : List.Perm ([(h0, .inr (5, [.ref h1, .ref h2, .ref h3, .ref h4, .int (nI d)])), (h1, .inl (G.2.2 2, 9, .inr (.inl (vp_updL S d 0)))), (h2, .inl (G.2.2 2, 9, .inr (.inl P))), (h3, .inl (G.2.2 1, 9, .inl (upd sg d 43))), (h4, .inl (G.2.2 1, 9, .inl pg))] : va_W) ([(h0, .inr (5, [.ref h1, .ref h2, .ref h3, .ref h4, .int (nI d)])), (h1, .inl (G.2.2 2, 9, .inr (.inl (vp_updL S d 0)))), (h2, .inl (G.2.2 2, 9, .inr (.inl P))), (h3, .inl (G.2.2 1, 9, .inl (upd sg d 43))), (h4, .inl (G.2.2 1, 9, .inl pg))] ++ []) := pm 5 rfl [0, 1, 2, 3, 4] (by decide +kernel) rfl
  refine k_v C h hp (r_runV C h hp 0 rfl rfl (As := []) (rest := []) (q_beginProduct l G h0 h1 h2 h3 h4 d (vp_updL S d 0) P (upd sg d 43) pg (by omega)) (cwV 0 C.1.1.2.2.2.2 gX5_begin_X5_beginProduct rfl rfl rfl (by decide +kernel) ⟨Nat.le_of_ble_eq_true rfl, Nat.le_of_ble_eq_true rfl⟩) rfl hl.1 (Nat.le_of_ble_eq_true rfl) dX5_begin_22 ⟨Nat.le_of_ble_eq_true rfl, Nat.le_of_ble_eq_true rfl⟩) (fun u_2 H locs hw_3 h => ?_)
  have h : gS G A s ([(h0, .inr (5, [.ref h1, .ref h2, .ref h3, .ref h4, .int (nI d)])), (h1, .inl (G.2.2 2, 9, .inr (.inl (vp_updL S d 0)))), (h2, .inl (G.2.2 2, 9, .inr (.inl (vp_updL P d 1)))), (h3, .inl (G.2.2 1, 9, .inl (upd sg d 43))), (h4, .inl (G.2.2 1, 9, .inl (upd pg d 42)))]) H locs := h
  refine W.widen (k := 0) (n := 0) (Nat.le_of_ble_eq_true rfl) (Nat.le_of_ble_eq_true rfl) ?_
  exact r_vret C h hr hlk (Nat.zero_le _) (Nat.zero_le _) () (trivial) (rfl) dX5_begin_25

set_option maxHeartbeats 4000000 in
set_option maxRecDepth 100000 in
theorem q_takeFactor (l : Launch) (G : gG) (h0 h1 h2 h3 h4 d : Nat) (S P : Nat → Int64) (sg pg : Nat → Int32) (hd : d ≤ 8) (v : Int64) : cM l yX5_takeFactor wsX5_takeFactor 1 30 (0) (0) G [.ref h0, .long v] ([(h0, .inr (5, [.ref h1, .ref h2, .ref h3, .ref h4, .int (nI d)])), (h1, .inl (G.2.2 2, 9, .inr (.inl S))), (h2, .inl (G.2.2 2, 9, .inr (.inl P))), (h3, .inl (G.2.2 1, 9, .inl sg)), (h4, .inl (G.2.2 1, 9, .inl pg))]) (qV G (S := Unit) (fun _ => True) (fun _ => [(h0, .inr (5, [.ref h1, .ref h2, .ref h3, .ref h4, .int (nI d)])), (h1, .inl (G.2.2 2, 9, .inr (.inl S))), (h2, .inl (G.2.2 2, 9, .inr (.inl (vp_updL P d (rTk (P d) (pg d) v))))), (h3, .inl (G.2.2 1, 9, .inl sg)), (h4, .inl (G.2.2 1, 9, .inl pg))])) := by
  refine o_M (cc := cX5_takeFactor) (maxL := 5) (ret := none) (own := RX5) (by decide +kernel) rfl rfl (Nat.le_of_ble_eq_true rfl) ?_
  intro p e s m below meth c A ls H locs hA C h hr hlk hnm hl
  have hx := C.1.1.1
  have hb := C.1.1.2.1
  have hl : lv_has ls 5 [(0, .ref h0), (1, .long v)] := hl
  have wd0 : Cond.fieldLink RX5 15 "ScaleHouse$Reckoner" "products" "[J" ∈ wsX5_takeFactor := by decide +kernel
  have hinX5 : ∀ w ∈ wsX50, w ∈ wsX5_takeFactor := by decide +kernel
  have wd1 : Cond.fieldLink RX5 25 "ScaleHouse$Reckoner" "depth" "I" ∈ wsX5_takeFactor := by decide +kernel
  have wd2 : Cond.fieldLink RX5 22 "ScaleHouse$Reckoner" "productSigns" "[I" ∈ wsX5_takeFactor := by decide +kernel
  refine lv_aload_n hx hb dX5_takeFactor_0 rfl (lv_at hl 0 rfl) ?_
  refine r_get C h 0 rfl (Cn := RX5) (T := TX5) (N := 5) rfl hinX5 1 (by decide) (index := 15) (ref := "ScaleHouse$Reckoner") wd0 rfl (v := .ref h2) rfl dX5_takeFactor_1 ?_
  refine lv_aload_n hx hb dX5_takeFactor_4 rfl (lv_at hl 0 rfl) ?_
  refine r_get C h 0 rfl (Cn := RX5) (T := TX5) (N := 5) rfl hinX5 4 (by decide) (index := 25) (ref := "ScaleHouse$Reckoner") wd1 rfl (v := .int (nI d)) rfl dX5_takeFactor_5 ?_
  refine r_lald C h 2 rfl (i := (nI d)) (vp_in_nI (by omega) (by decide)) dX5_takeFactor_8 ?_
  refine lv_cgl (nn_atL P (by omega)) ?_
  refine lv_lstore_n (lv' := [(3, .long (P d)), (0, .ref h0), (1, .long v)]) hx hb dX5_takeFactor_9 rfl hl (by decide) rfl (fun ls hl => ?_)
  refine lv_aload_n hx hb dX5_takeFactor_10 rfl (lv_at hl 1 rfl) ?_
  refine r_get C h 0 rfl (Cn := RX5) (T := TX5) (N := 5) rfl hinX5 3 (by decide) (index := 22) (ref := "ScaleHouse$Reckoner") wd2 rfl (v := .ref h4) rfl dX5_takeFactor_11 ?_
  refine lv_aload_n hx hb dX5_takeFactor_14 rfl (lv_at hl 1 rfl) ?_
  refine r_get C h 0 rfl (Cn := RX5) (T := TX5) (N := 5) rfl hinX5 4 (by decide) (index := 25) (ref := "ScaleHouse$Reckoner") wd1 rfl (v := .int (nI d)) rfl dX5_takeFactor_15 ?_
  refine r_iald C h 4 rfl (i := (nI d)) (vp_in_nI (by omega) (by decide)) dX5_takeFactor_18 ?_
  refine lv_cgi (nn_at pg (by omega)) ?_
  refine lv_bipush (v := 42) hx hb dX5_takeFactor_19 (by decide) ?_
  refine lv_icmp_ne (tgt := 42) hx hb dX5_takeFactor_21 (by decide) (fun c_21 => ?_) (fun c_21 => ?_)
  · refine lv_lload_n hx hb dX5_takeFactor_42 rfl (lv_at hl 2 rfl) ?_
    refine lv_lconst (v := 0) hx hb dX5_takeFactor_43 (by decide) ?_
    refine W.lcmp hx hb dX5_takeFactor_44 ?_
    refine lv_if_ne (tgt := 61) hx hb dX5_takeFactor_45 (by decide) (fun c_45 => ?_) (fun c_45 => ?_)
    · rw [lg_cmp_eq] at c_45
      refine lv_aload_n hx hb dX5_takeFactor_61 rfl (lv_at hl 1 rfl) ?_
      refine r_get C h 0 rfl (Cn := RX5) (T := TX5) (N := 5) rfl hinX5 1 (by decide) (index := 15) (ref := "ScaleHouse$Reckoner") wd0 rfl (v := .ref h2) rfl dX5_takeFactor_62 ?_
      refine lv_aload_n hx hb dX5_takeFactor_65 rfl (lv_at hl 1 rfl) ?_
      refine r_get C h 0 rfl (Cn := RX5) (T := TX5) (N := 5) rfl hinX5 4 (by decide) (index := 25) (ref := "ScaleHouse$Reckoner") wd1 rfl (v := .int (nI d)) rfl dX5_takeFactor_66 ?_
      refine lv_lload_n hx hb dX5_takeFactor_69 rfl (lv_at hl 0 rfl) ?_
      refine lv_lload_n hx hb dX5_takeFactor_70 rfl (lv_at hl 2 rfl) ?_
      have hp : List.Perm ([(h0, .inr (5, [.ref h1, .ref h2, .ref h3, .ref h4, .int (nI d)])), (h1, .inl (G.2.2 2, 9, .inr (.inl S))), (h2, .inl (G.2.2 2, 9, .inr (.inl P))), (h3, .inl (G.2.2 1, 9, .inl sg)), (h4, .inl (G.2.2 1, 9, .inl pg))] : va_W) ([] ++ ([(h0, .inr (5, [.ref h1, .ref h2, .ref h3, .ref h4, .int (nI d)])), (h1, .inl (G.2.2 2, 9, .inr (.inl S))), (h2, .inl (G.2.2 2, 9, .inr (.inl P))), (h3, .inl (G.2.2 1, 9, .inl sg)), (h4, .inl (G.2.2 1, 9, .inl pg))])) := List.Perm.refl _
      refine k_l C h hp (r_runS C h hp (As := [.long (P d), .long v]) (rest := [.int (nI d), .ref h2]) (j_floorDiv l G (P d) v (by assumption)) (va_cwS 2 C.1.1.2.2.2.2 gX5_takeFactor_J9_floorDiv_f86c9 rfl rfl rfl (by decide +kernel) ⟨Nat.le_of_ble_eq_true rfl, Nat.le_of_ble_eq_true rfl⟩) rfl hl.1 (Nat.le_of_ble_eq_true rfl) dX5_takeFactor_71 ⟨Nat.le_of_ble_eq_true rfl, Nat.le_of_ble_eq_true rfl⟩) (fun r_1 u_2 H locs hw_3 h => ?_)
      have h : gS G A s ([(h0, .inr (5, [.ref h1, .ref h2, .ref h3, .ref h4, .int (nI d)])), (h1, .inl (G.2.2 2, 9, .inr (.inl S))), (h2, .inl (G.2.2 2, 9, .inr (.inl P))), (h3, .inl (G.2.2 1, 9, .inl sg)), (h4, .inl (G.2.2 1, 9, .inl pg))]) H locs := h
      refine W.widen (k := 0) (n := 0) (Nat.le_of_ble_eq_true rfl) (Nat.le_of_ble_eq_true rfl) ?_
      subst hw_3
      have hp : List.Perm ([(h0, .inr (5, [.ref h1, .ref h2, .ref h3, .ref h4, .int (nI d)])), (h1, .inl (G.2.2 2, 9, .inr (.inl S))), (h2, .inl (G.2.2 2, 9, .inr (.inl P))), (h3, .inl (G.2.2 1, 9, .inl sg)), (h4, .inl (G.2.2 1, 9, .inl pg))] : va_W) ([] ++ ([(h0, .inr (5, [.ref h1, .ref h2, .ref h3, .ref h4, .int (nI d)])), (h1, .inl (G.2.2 2, 9, .inr (.inl S))), (h2, .inl (G.2.2 2, 9, .inr (.inl P))), (h3, .inl (G.2.2 1, 9, .inl sg)), (h4, .inl (G.2.2 1, 9, .inl pg))])) := List.Perm.refl _
      refine k_l C h hp (r_runS C h hp (As := [.long (fdv (P d) v)]) (rest := [.int (nI d), .ref h2]) (q_bounded l G (fdv (P d) v)) (va_cwS 1 C.1.1.2.2.2.2 gX5_takeFactor_X5_bounded rfl rfl rfl (by decide +kernel) ⟨Nat.le_of_ble_eq_true rfl, Nat.le_of_ble_eq_true rfl⟩) rfl hl.1 (Nat.le_of_ble_eq_true rfl) dX5_takeFactor_74 ⟨Nat.le_of_ble_eq_true rfl, Nat.le_of_ble_eq_true rfl⟩) (fun r_4 u_5 H locs hw_6 h => ?_)
      have h : gS G A s ([(h0, .inr (5, [.ref h1, .ref h2, .ref h3, .ref h4, .int (nI d)])), (h1, .inl (G.2.2 2, 9, .inr (.inl S))), (h2, .inl (G.2.2 2, 9, .inr (.inl P))), (h3, .inl (G.2.2 1, 9, .inl sg)), (h4, .inl (G.2.2 1, 9, .inl pg))]) H locs := h
      refine W.widen (k := 0) (n := 0) (Nat.le_of_ble_eq_true rfl) (Nat.le_of_ble_eq_true rfl) ?_
      subst hw_6
      refine r_last C h 2 rfl (i := (nI d)) (vp_in_nI (by omega) (by decide)) dX5_takeFactor_77 (fun H locs h => ?_)
      have h : gS G A s ([(h0, .inr (5, [.ref h1, .ref h2, .ref h3, .ref h4, .int (nI d)])), (h1, .inl (G.2.2 2, 9, .inr (.inl S))), (h2, .inl (G.2.2 2, 9, .inr (.inl (vp_updL P (nI d).toNatClampNeg (bd (fdv (P d) v)))))), (h3, .inl (G.2.2 1, 9, .inl sg)), (h4, .inl (G.2.2 1, 9, .inl pg))]) H locs := h
      rw [show (vp_updL P (nI d).toNatClampNeg (bd (fdv (P d) v))) = (vp_updL P d (rTk (P d) (pg d) v)) from by rw [nn_upL P (by omega), rTk, if_neg c_21, if_neg c_45]] at h
      have h : gS G A s ([(h0, .inr (5, [.ref h1, .ref h2, .ref h3, .ref h4, .int (nI d)])), (h1, .inl (G.2.2 2, 9, .inr (.inl S))), (h2, .inl (G.2.2 2, 9, .inr (.inl (vp_updL P d (rTk (P d) (pg d) v))))), (h3, .inl (G.2.2 1, 9, .inl sg)), (h4, .inl (G.2.2 1, 9, .inl pg))]) H locs := h
      exact r_vret C h hr hlk (Nat.zero_le _) (Nat.zero_le _) () (trivial) (rfl) dX5_takeFactor_78
    · rw [lg_cmp_eq] at c_45
      refine lv_aload_n hx hb dX5_takeFactor_48 rfl (lv_at hl 1 rfl) ?_
      refine r_get C h 0 rfl (Cn := RX5) (T := TX5) (N := 5) rfl hinX5 1 (by decide) (index := 15) (ref := "ScaleHouse$Reckoner") wd0 rfl (v := .ref h2) rfl dX5_takeFactor_49 ?_
      refine lv_aload_n hx hb dX5_takeFactor_52 rfl (lv_at hl 1 rfl) ?_
      refine r_get C h 0 rfl (Cn := RX5) (T := TX5) (N := 5) rfl hinX5 4 (by decide) (index := 25) (ref := "ScaleHouse$Reckoner") wd1 rfl (v := .int (nI d)) rfl dX5_takeFactor_53 ?_
      refine lv_lconst (v := 0) hx hb dX5_takeFactor_56 (by decide) ?_
      refine r_last C h 2 rfl (i := (nI d)) (vp_in_nI (by omega) (by decide)) dX5_takeFactor_57 (fun H locs h => ?_)
      have h : gS G A s ([(h0, .inr (5, [.ref h1, .ref h2, .ref h3, .ref h4, .int (nI d)])), (h1, .inl (G.2.2 2, 9, .inr (.inl S))), (h2, .inl (G.2.2 2, 9, .inr (.inl (vp_updL P (nI d).toNatClampNeg 0)))), (h3, .inl (G.2.2 1, 9, .inl sg)), (h4, .inl (G.2.2 1, 9, .inl pg))]) H locs := h
      rw [show (vp_updL P (nI d).toNatClampNeg 0) = (vp_updL P d (rTk (P d) (pg d) v)) from by rw [nn_upL P (by omega), rTk, if_neg c_21, if_pos c_45]] at h
      have h : gS G A s ([(h0, .inr (5, [.ref h1, .ref h2, .ref h3, .ref h4, .int (nI d)])), (h1, .inl (G.2.2 2, 9, .inr (.inl S))), (h2, .inl (G.2.2 2, 9, .inr (.inl (vp_updL P d (rTk (P d) (pg d) v))))), (h3, .inl (G.2.2 1, 9, .inl sg)), (h4, .inl (G.2.2 1, 9, .inl pg))]) H locs := h
      refine lv_goto (tgt := 78) hx hb dX5_takeFactor_58 (by decide) ?_
      exact r_vret C h hr hlk (Nat.zero_le _) (Nat.zero_le _) () (trivial) (rfl) dX5_takeFactor_78
  · refine lv_aload_n hx hb dX5_takeFactor_24 rfl (lv_at hl 1 rfl) ?_
    refine r_get C h 0 rfl (Cn := RX5) (T := TX5) (N := 5) rfl hinX5 1 (by decide) (index := 15) (ref := "ScaleHouse$Reckoner") wd0 rfl (v := .ref h2) rfl dX5_takeFactor_25 ?_
    refine lv_aload_n hx hb dX5_takeFactor_28 rfl (lv_at hl 1 rfl) ?_
    refine r_get C h 0 rfl (Cn := RX5) (T := TX5) (N := 5) rfl hinX5 4 (by decide) (index := 25) (ref := "ScaleHouse$Reckoner") wd1 rfl (v := .int (nI d)) rfl dX5_takeFactor_29 ?_
    refine lv_lload_n hx hb dX5_takeFactor_32 rfl (lv_at hl 0 rfl) ?_
    refine lv_lload_n hx hb dX5_takeFactor_33 rfl (lv_at hl 2 rfl) ?_
    refine lv_lmul hx hb dX5_takeFactor_34 ?_
    have hp : List.Perm ([(h0, .inr (5, [.ref h1, .ref h2, .ref h3, .ref h4, .int (nI d)])), (h1, .inl (G.2.2 2, 9, .inr (.inl S))), (h2, .inl (G.2.2 2, 9, .inr (.inl P))), (h3, .inl (G.2.2 1, 9, .inl sg)), (h4, .inl (G.2.2 1, 9, .inl pg))] : va_W) ([] ++ ([(h0, .inr (5, [.ref h1, .ref h2, .ref h3, .ref h4, .int (nI d)])), (h1, .inl (G.2.2 2, 9, .inr (.inl S))), (h2, .inl (G.2.2 2, 9, .inr (.inl P))), (h3, .inl (G.2.2 1, 9, .inl sg)), (h4, .inl (G.2.2 1, 9, .inl pg))])) := List.Perm.refl _
    refine k_l C h hp (r_runS C h hp (As := [.long ((P d) * v)]) (rest := [.int (nI d), .ref h2]) (q_bounded l G ((P d) * v)) (va_cwS 1 C.1.1.2.2.2.2 gX5_takeFactor_X5_bounded rfl rfl rfl (by decide +kernel) ⟨Nat.le_of_ble_eq_true rfl, Nat.le_of_ble_eq_true rfl⟩) rfl hl.1 (Nat.le_of_ble_eq_true rfl) dX5_takeFactor_35 ⟨Nat.le_of_ble_eq_true rfl, Nat.le_of_ble_eq_true rfl⟩) (fun r_7 u_8 H locs hw_9 h => ?_)
    have h : gS G A s ([(h0, .inr (5, [.ref h1, .ref h2, .ref h3, .ref h4, .int (nI d)])), (h1, .inl (G.2.2 2, 9, .inr (.inl S))), (h2, .inl (G.2.2 2, 9, .inr (.inl P))), (h3, .inl (G.2.2 1, 9, .inl sg)), (h4, .inl (G.2.2 1, 9, .inl pg))]) H locs := h
    refine W.widen (k := 0) (n := 0) (Nat.le_of_ble_eq_true rfl) (Nat.le_of_ble_eq_true rfl) ?_
    subst hw_9
    refine r_last C h 2 rfl (i := (nI d)) (vp_in_nI (by omega) (by decide)) dX5_takeFactor_38 (fun H locs h => ?_)
    have h : gS G A s ([(h0, .inr (5, [.ref h1, .ref h2, .ref h3, .ref h4, .int (nI d)])), (h1, .inl (G.2.2 2, 9, .inr (.inl S))), (h2, .inl (G.2.2 2, 9, .inr (.inl (vp_updL P (nI d).toNatClampNeg (bd ((P d) * v)))))), (h3, .inl (G.2.2 1, 9, .inl sg)), (h4, .inl (G.2.2 1, 9, .inl pg))]) H locs := h
    rw [show (vp_updL P (nI d).toNatClampNeg (bd ((P d) * v))) = (vp_updL P d (rTk (P d) (pg d) v)) from by rw [nn_upL P (by omega), rTk, if_pos c_21]] at h
    have h : gS G A s ([(h0, .inr (5, [.ref h1, .ref h2, .ref h3, .ref h4, .int (nI d)])), (h1, .inl (G.2.2 2, 9, .inr (.inl S))), (h2, .inl (G.2.2 2, 9, .inr (.inl (vp_updL P d (rTk (P d) (pg d) v))))), (h3, .inl (G.2.2 1, 9, .inl sg)), (h4, .inl (G.2.2 1, 9, .inl pg))]) H locs := h
    refine lv_goto (tgt := 78) hx hb dX5_takeFactor_39 (by decide) ?_
    exact r_vret C h hr hlk (Nat.zero_le _) (Nat.zero_le _) () (trivial) (rfl) dX5_takeFactor_78

set_option maxHeartbeats 4000000 in
set_option maxRecDepth 100000 in
theorem q_wholeSum (l : Launch) (G : gG) (h0 h1 h2 h3 h4 d : Nat) (S P : Nat → Int64) (sg pg : Nat → Int32) (hd : d ≤ 8) : cM l yX5_wholeSum wsX5_wholeSum 1 30 (0) (0) G [.ref h0] ([(h0, .inr (5, [.ref h1, .ref h2, .ref h3, .ref h4, .int (nI d)])), (h1, .inl (G.2.2 2, 9, .inr (.inl S))), (h2, .inl (G.2.2 2, 9, .inr (.inl P))), (h3, .inl (G.2.2 1, 9, .inl sg)), (h4, .inl (G.2.2 1, 9, .inl pg))]) (qL G (S := Unit) (fun r _ => r = rSm (S d) (P d) (sg d)) (fun _ => [(h0, .inr (5, [.ref h1, .ref h2, .ref h3, .ref h4, .int (nI d)])), (h1, .inl (G.2.2 2, 9, .inr (.inl S))), (h2, .inl (G.2.2 2, 9, .inr (.inl P))), (h3, .inl (G.2.2 1, 9, .inl sg)), (h4, .inl (G.2.2 1, 9, .inl pg))])) := by
  refine o_M (cc := cX5_wholeSum) (maxL := 3) (ret := (some .long)) (own := RX5) (by decide +kernel) rfl rfl (Nat.le_of_ble_eq_true rfl) ?_
  intro p e s m below meth c A ls H locs hA C h hr hlk hnm hl
  have hx := C.1.1.1
  have hb := C.1.1.2.1
  have hl : lv_has ls 3 [(0, .ref h0)] := hl
  have wd0 : Cond.fieldLink RX5 15 "ScaleHouse$Reckoner" "products" "[J" ∈ wsX5_wholeSum := by decide +kernel
  have hinX5 : ∀ w ∈ wsX50, w ∈ wsX5_wholeSum := by decide +kernel
  have wd1 : Cond.fieldLink RX5 25 "ScaleHouse$Reckoner" "depth" "I" ∈ wsX5_wholeSum := by decide +kernel
  have wd2 : Cond.fieldLink RX5 18 "ScaleHouse$Reckoner" "sumSigns" "[I" ∈ wsX5_wholeSum := by decide +kernel
  have wd3 : Cond.fieldLink RX5 9 "ScaleHouse$Reckoner" "sums" "[J" ∈ wsX5_wholeSum := by decide +kernel
  refine lv_aload_n hx hb dX5_wholeSum_0 rfl (lv_at hl 0 rfl) ?_
  refine r_get C h 0 rfl (Cn := RX5) (T := TX5) (N := 5) rfl hinX5 1 (by decide) (index := 15) (ref := "ScaleHouse$Reckoner") wd0 rfl (v := .ref h2) rfl dX5_wholeSum_1 ?_
  refine lv_aload_n hx hb dX5_wholeSum_4 rfl (lv_at hl 0 rfl) ?_
  refine r_get C h 0 rfl (Cn := RX5) (T := TX5) (N := 5) rfl hinX5 4 (by decide) (index := 25) (ref := "ScaleHouse$Reckoner") wd1 rfl (v := .int (nI d)) rfl dX5_wholeSum_5 ?_
  refine r_lald C h 2 rfl (i := (nI d)) (vp_in_nI (by omega) (by decide)) dX5_wholeSum_8 ?_
  refine lv_cgl (nn_atL P (by omega)) ?_
  refine lv_lstore_n (lv' := [(1, .long (P d)), (0, .ref h0)]) hx hb dX5_wholeSum_9 rfl hl (by decide) rfl (fun ls hl => ?_)
  refine lv_aload_n hx hb dX5_wholeSum_10 rfl (lv_at hl 1 rfl) ?_
  refine r_get C h 0 rfl (Cn := RX5) (T := TX5) (N := 5) rfl hinX5 2 (by decide) (index := 18) (ref := "ScaleHouse$Reckoner") wd2 rfl (v := .ref h3) rfl dX5_wholeSum_11 ?_
  refine lv_aload_n hx hb dX5_wholeSum_14 rfl (lv_at hl 1 rfl) ?_
  refine r_get C h 0 rfl (Cn := RX5) (T := TX5) (N := 5) rfl hinX5 4 (by decide) (index := 25) (ref := "ScaleHouse$Reckoner") wd1 rfl (v := .int (nI d)) rfl dX5_wholeSum_15 ?_
  refine r_iald C h 3 rfl (i := (nI d)) (vp_in_nI (by omega) (by decide)) dX5_wholeSum_18 ?_
  refine lv_cgi (nn_at sg (by omega)) ?_
  refine lv_bipush (v := 43) hx hb dX5_wholeSum_19 (by decide) ?_
  refine lv_icmp_ne (tgt := 38) hx hb dX5_wholeSum_21 (by decide) (fun c_21 => ?_) (fun c_21 => ?_)
  · refine lv_aload_n hx hb dX5_wholeSum_38 rfl (lv_at hl 1 rfl) ?_
    refine r_get C h 0 rfl (Cn := RX5) (T := TX5) (N := 5) rfl hinX5 0 (by decide) (index := 9) (ref := "ScaleHouse$Reckoner") wd3 rfl (v := .ref h1) rfl dX5_wholeSum_39 ?_
    refine lv_aload_n hx hb dX5_wholeSum_42 rfl (lv_at hl 1 rfl) ?_
    refine r_get C h 0 rfl (Cn := RX5) (T := TX5) (N := 5) rfl hinX5 4 (by decide) (index := 25) (ref := "ScaleHouse$Reckoner") wd1 rfl (v := .int (nI d)) rfl dX5_wholeSum_43 ?_
    refine r_lald C h 1 rfl (i := (nI d)) (vp_in_nI (by omega) (by decide)) dX5_wholeSum_46 ?_
    refine lv_cgl (nn_atL S (by omega)) ?_
    refine lv_lload_n hx hb dX5_wholeSum_47 rfl (lv_at hl 0 rfl) ?_
    refine lv_lsub hx hb dX5_wholeSum_48 ?_
    have hp : List.Perm ([(h0, .inr (5, [.ref h1, .ref h2, .ref h3, .ref h4, .int (nI d)])), (h1, .inl (G.2.2 2, 9, .inr (.inl S))), (h2, .inl (G.2.2 2, 9, .inr (.inl P))), (h3, .inl (G.2.2 1, 9, .inl sg)), (h4, .inl (G.2.2 1, 9, .inl pg))] : va_W) ([] ++ ([(h0, .inr (5, [.ref h1, .ref h2, .ref h3, .ref h4, .int (nI d)])), (h1, .inl (G.2.2 2, 9, .inr (.inl S))), (h2, .inl (G.2.2 2, 9, .inr (.inl P))), (h3, .inl (G.2.2 1, 9, .inl sg)), (h4, .inl (G.2.2 1, 9, .inl pg))])) := List.Perm.refl _
    refine k_l C h hp (r_runS C h hp (As := [.long ((S d) - (P d))]) (rest := []) (q_bounded l G ((S d) - (P d))) (va_cwS 1 C.1.1.2.2.2.2 gX5_wholeSum_X5_bounded rfl rfl rfl (by decide +kernel) ⟨Nat.le_of_ble_eq_true rfl, Nat.le_of_ble_eq_true rfl⟩) rfl hl.1 (Nat.le_of_ble_eq_true rfl) dX5_wholeSum_49 ⟨Nat.le_of_ble_eq_true rfl, Nat.le_of_ble_eq_true rfl⟩) (fun r_1 u_2 H locs hw_3 h => ?_)
    have h : gS G A s ([(h0, .inr (5, [.ref h1, .ref h2, .ref h3, .ref h4, .int (nI d)])), (h1, .inl (G.2.2 2, 9, .inr (.inl S))), (h2, .inl (G.2.2 2, 9, .inr (.inl P))), (h3, .inl (G.2.2 1, 9, .inl sg)), (h4, .inl (G.2.2 1, 9, .inl pg))]) H locs := h
    refine W.widen (k := 0) (n := 0) (Nat.le_of_ble_eq_true rfl) (Nat.le_of_ble_eq_true rfl) ?_
    subst hw_3
    exact r_lret C h hr hlk (Nat.zero_le _) (Nat.zero_le _) () (by simp only [rSm, if_neg c_21]) (rfl) dX5_wholeSum_52
  · refine lv_aload_n hx hb dX5_wholeSum_24 rfl (lv_at hl 1 rfl) ?_
    refine r_get C h 0 rfl (Cn := RX5) (T := TX5) (N := 5) rfl hinX5 0 (by decide) (index := 9) (ref := "ScaleHouse$Reckoner") wd3 rfl (v := .ref h1) rfl dX5_wholeSum_25 ?_
    refine lv_aload_n hx hb dX5_wholeSum_28 rfl (lv_at hl 1 rfl) ?_
    refine r_get C h 0 rfl (Cn := RX5) (T := TX5) (N := 5) rfl hinX5 4 (by decide) (index := 25) (ref := "ScaleHouse$Reckoner") wd1 rfl (v := .int (nI d)) rfl dX5_wholeSum_29 ?_
    refine r_lald C h 1 rfl (i := (nI d)) (vp_in_nI (by omega) (by decide)) dX5_wholeSum_32 ?_
    refine lv_cgl (nn_atL S (by omega)) ?_
    refine lv_lload_n hx hb dX5_wholeSum_33 rfl (lv_at hl 0 rfl) ?_
    refine lv_ladd hx hb dX5_wholeSum_34 ?_
    refine lv_goto (tgt := 49) hx hb dX5_wholeSum_35 (by decide) ?_
    have hp : List.Perm ([(h0, .inr (5, [.ref h1, .ref h2, .ref h3, .ref h4, .int (nI d)])), (h1, .inl (G.2.2 2, 9, .inr (.inl S))), (h2, .inl (G.2.2 2, 9, .inr (.inl P))), (h3, .inl (G.2.2 1, 9, .inl sg)), (h4, .inl (G.2.2 1, 9, .inl pg))] : va_W) ([] ++ ([(h0, .inr (5, [.ref h1, .ref h2, .ref h3, .ref h4, .int (nI d)])), (h1, .inl (G.2.2 2, 9, .inr (.inl S))), (h2, .inl (G.2.2 2, 9, .inr (.inl P))), (h3, .inl (G.2.2 1, 9, .inl sg)), (h4, .inl (G.2.2 1, 9, .inl pg))])) := List.Perm.refl _
    refine k_l C h hp (r_runS C h hp (As := [.long ((S d) + (P d))]) (rest := []) (q_bounded l G ((S d) + (P d))) (va_cwS 1 C.1.1.2.2.2.2 gX5_wholeSum_X5_bounded rfl rfl rfl (by decide +kernel) ⟨Nat.le_of_ble_eq_true rfl, Nat.le_of_ble_eq_true rfl⟩) rfl hl.1 (Nat.le_of_ble_eq_true rfl) dX5_wholeSum_49 ⟨Nat.le_of_ble_eq_true rfl, Nat.le_of_ble_eq_true rfl⟩) (fun r_4 u_5 H locs hw_6 h => ?_)
    have h : gS G A s ([(h0, .inr (5, [.ref h1, .ref h2, .ref h3, .ref h4, .int (nI d)])), (h1, .inl (G.2.2 2, 9, .inr (.inl S))), (h2, .inl (G.2.2 2, 9, .inr (.inl P))), (h3, .inl (G.2.2 1, 9, .inl sg)), (h4, .inl (G.2.2 1, 9, .inl pg))]) H locs := h
    refine W.widen (k := 0) (n := 0) (Nat.le_of_ble_eq_true rfl) (Nat.le_of_ble_eq_true rfl) ?_
    subst hw_6
    exact r_lret C h hr hlk (Nat.zero_le _) (Nat.zero_le _) () (by simp only [rSm, if_pos c_21]) (rfl) dX5_wholeSum_52

set_option maxHeartbeats 4000000 in
set_option maxRecDepth 100000 in
theorem lp_X5_reckon {p : Program} {l : Launch} {e : Env} {s : State} {m : MethodId} {args : Array Value} {below : List Frame} {meth : Method} {c : Code} {Q : State → Prop} {G : gG} {A : Nat → Prop} (C : gC p m c cX5_reckon 8 s args wsX5_reckon RX5 G A) (h0 h1 h2 h3 h4 ht nt : Nat) (tk : Nat → Int32) (dd ll : Int32) (z : RS) (hnt : nt < 2 ^ 30) (kx : ∀ (H : Heap) (locs : List Loc) (ls : Array Slot), z.1 ≤ 8 → gS G A s ([(h0, .inr (5, [.ref h1, .ref h2, .ref h3, .ref h4, .int (nI z.1)])), (h1, .inl (G.2.2 2, 9, .inr (.inl z.2.1))), (h2, .inl (G.2.2 2, 9, .inr (.inl z.2.2.1))), (h3, .inl (G.2.2 1, 9, .inl z.2.2.2.1)), (h4, .inl (G.2.2 1, 9, .inl z.2.2.2.2)), (ht, .inl (G.2.2 1, nt, .inl tk))]) H locs → lv_has ls 8 [(0, .ref h0)] → W p l e (gR 3 80 0 0) s m args below meth c H locs 0 0 Q (F0 m 240 ls [])) :
    ∀ (r : Nat) (i d : Nat) (S P : Nat → Int64) (sg pg : Nat → Int32) (H : Heap) (locs : List Loc) (ls : Array Slot), (i + r = nt) → (d ≤ 8) → (rkF tk dd ll r i (d, S, P, sg, pg) = z) →  gS G A s ([(h0, .inr (5, [.ref h1, .ref h2, .ref h3, .ref h4, .int (nI d)])), (h1, .inl (G.2.2 2, 9, .inr (.inl S))), (h2, .inl (G.2.2 2, 9, .inr (.inl P))), (h3, .inl (G.2.2 1, 9, .inl sg)), (h4, .inl (G.2.2 1, 9, .inl pg)), (ht, .inl (G.2.2 1, nt, .inl tk))]) H locs → lv_has ls 8 [(0, .ref h0), (1, .ref ht), (2, .int dd), (3, .int ll), (4, .int (nI i))] → W p l e (gR 3 80 0 0) s m args below meth c H locs 0 0 Q (F0 m 12 ls []) := by
  have hx := C.1.1.1
  have hb := C.1.1.2.1
  have wd0 : Cond.fieldLink RX5 25 "ScaleHouse$Reckoner" "depth" "I" ∈ wsX5_reckon := by decide +kernel
  have hinX5 : ∀ w ∈ wsX50, w ∈ wsX5_reckon := by decide +kernel
  have wd1 : Cond.fieldLink RX5 22 "ScaleHouse$Reckoner" "productSigns" "[I" ∈ wsX5_reckon := by decide +kernel
  have wd2 : Cond.fieldLink RX5 9 "ScaleHouse$Reckoner" "sums" "[J" ∈ wsX5_reckon := by decide +kernel
  have wd3 : Cond.fieldLink RX5 18 "ScaleHouse$Reckoner" "sumSigns" "[I" ∈ wsX5_reckon := by decide +kernel
  intro r
  induction r with
  | zero =>
    intro i d S P sg pg H locs ls hi hd hz h hl
    refine lv_iload hx hb dX5_reckon_12 (lv_at hl 4 rfl) ?_
    refine lv_aload_n hx hb dX5_reckon_14 rfl (lv_at hl 1 rfl) ?_
    refine r_alen C h 5 1 rfl rfl dX5_reckon_15 ?_
    refine lv_icmp_ge (tgt := 240) hx hb dX5_reckon_16 (by decide) (fun c_16 => ?_) (fun c_16 => ?_)
    · subst hz
      exact kx _ _ ls hd h (lv_sub hl [0] rfl)
    · exact absurd (by rw [show i = nt by omega]; exact Int32.le_refl _) c_16
  | succ r ih =>
    intro i d S P sg pg H locs ls hi hd hz h hl
    refine lv_iload hx hb dX5_reckon_12 (lv_at hl 4 rfl) ?_
    refine lv_aload_n hx hb dX5_reckon_14 rfl (lv_at hl 1 rfl) ?_
    refine r_alen C h 5 1 rfl rfl dX5_reckon_15 ?_
    refine lv_icmp_ge (tgt := 240) hx hb dX5_reckon_16 (by decide) (fun c_16 => ?_) (fun c_16 => ?_)
    · exact absurd c_16 (nI_ge (by omega) (by omega))
    · refine lv_aload_n hx hb dX5_reckon_19 rfl (lv_at hl 1 rfl) ?_
      refine lv_iload hx hb dX5_reckon_20 (lv_at hl 4 rfl) ?_
      refine r_iald C h 5 rfl (i := (nI i)) (vp_in_nI (by omega) (by omega)) dX5_reckon_22 ?_
      refine lv_cgi (nn_at tk (by omega)) ?_
      refine lv_istore (lv' := [(5, .int (tk i)), (0, .ref h0), (1, .ref ht), (2, .int dd), (3, .int ll), (4, .int (nI i))]) hx hb dX5_reckon_23 hl (by decide) rfl (fun ls hl => ?_)
      refine lv_iload hx hb dX5_reckon_25 (lv_at hl 0 rfl) ?_
      refine lv_ineg hx hb dX5_reckon_27 ?_
      by_cases c_28_40 : (-(tk i)) = 40
      · refine lv_lookup (off := 94) (tgt := 122) hx hb dX5_reckon_28 (by decide) (by rw [c_28_40]; decide) (by decide) ?_
        refine lv_aload_n hx hb dX5_reckon_122 rfl (lv_at hl 1 rfl) ?_
        refine r_get C h 0 rfl (Cn := RX5) (T := TX5) (N := 5) rfl hinX5 4 (by decide) (index := 25) (ref := "ScaleHouse$Reckoner") wd0 rfl (v := .int (nI d)) rfl dX5_reckon_123 ?_
        refine lv_bipush (v := 8) hx hb dX5_reckon_126 (by decide) ?_
        refine lv_icmp_ge (tgt := 234) hx hb dX5_reckon_128 (by decide) (fun c_128 => ?_) (fun c_128 => ?_)
        · have h8 : ¬ d < 8 := fun z => absurd c_128 (nI_ge (b := 8) z (by decide))
          obtain ⟨x_1, ex_1⟩ : ∃ y : Int32, y = (nI i) + 1 := ⟨_, rfl⟩
          refine lv_iinc (v := x_1) (lv' := [(4, .int x_1), (5, .int (tk i)), (0, .ref h0), (1, .ref ht), (2, .int dd), (3, .int ll)]) hx hb dX5_reckon_234 hl (k := 5) rfl (by rw [ex_1]; rfl) (by decide) rfl (fun ls hl => ?_)
          refine lv_goto (tgt := 12) hx hb dX5_reckon_237 (by decide) ?_
          exact ih (i + 1) d S P sg pg _ _ ls (by omega) (by omega) (by rw [← hz, rkF, rSt, if_pos c_28_40, if_neg h8] <;> rfl) h (by rw [← nI_1, ← ex_1]; exact lv_sub hl [2, 3, 4, 5, 0] rfl)
        · have h8 : d < 8 := nn_lt (b := 8) c_128 (by omega)
          refine lv_aload_n hx hb dX5_reckon_131 rfl (lv_at hl 1 rfl) ?_
          refine lv_dup hx hb dX5_reckon_132 rfl ?_
          refine r_get C h 0 rfl (Cn := RX5) (T := TX5) (N := 5) rfl hinX5 4 (by decide) (index := 25) (ref := "ScaleHouse$Reckoner") wd0 rfl (v := .int (nI d)) rfl dX5_reckon_133 ?_
          refine lv_iconst (v := 1) hx hb dX5_reckon_136 (by decide) ?_
          refine lv_iadd hx hb dX5_reckon_137 ?_
          refine r_put C h 0 rfl (Cn := RX5) (T := TX5) (N := 5) rfl hinX5 tyX5 tyX5_ok nmX5 4 (by decide) (index := 25) (ref := "ScaleHouse$Reckoner") wd0 rfl rfl (v := .int ((nI d) + 1)) rfl rfl (show 4 < 5 by decide) dX5_reckon_138 (fun H locs h => ?_)
          have h : gS G A s ([(h0, .inr (5, [.ref h1, .ref h2, .ref h3, .ref h4, .int ((nI d) + 1)])), (h1, .inl (G.2.2 2, 9, .inr (.inl S))), (h2, .inl (G.2.2 2, 9, .inr (.inl P))), (h3, .inl (G.2.2 1, 9, .inl sg)), (h4, .inl (G.2.2 1, 9, .inl pg)), (ht, .inl (G.2.2 1, nt, .inl tk))]) H locs := h
          rw [show ((nI d) + 1) = nI (d + 1) from nI_1 d] at h
          have h : gS G A s ([(h0, .inr (5, [.ref h1, .ref h2, .ref h3, .ref h4, .int (nI (d + 1))])), (h1, .inl (G.2.2 2, 9, .inr (.inl S))), (h2, .inl (G.2.2 2, 9, .inr (.inl P))), (h3, .inl (G.2.2 1, 9, .inl sg)), (h4, .inl (G.2.2 1, 9, .inl pg)), (ht, .inl (G.2.2 1, nt, .inl tk))]) H locs := h
          refine lv_aload_n hx hb dX5_reckon_141 rfl (lv_at hl 1 rfl) ?_
          have hp : List.Perm ([(h0, .inr (5, [.ref h1, .ref h2, .ref h3, .ref h4, .int (nI (d + 1))])), (h1, .inl (G.2.2 2, 9, .inr (.inl S))), (h2, .inl (G.2.2 2, 9, .inr (.inl P))), (h3, .inl (G.2.2 1, 9, .inl sg)), (h4, .inl (G.2.2 1, 9, .inl pg)), (ht, .inl (G.2.2 1, nt, .inl tk))] : va_W) ([(h0, .inr (5, [.ref h1, .ref h2, .ref h3, .ref h4, .int (nI (d + 1))])), (h1, .inl (G.2.2 2, 9, .inr (.inl S))), (h2, .inl (G.2.2 2, 9, .inr (.inl P))), (h3, .inl (G.2.2 1, 9, .inl sg)), (h4, .inl (G.2.2 1, 9, .inl pg))] ++ [(ht, .inl (G.2.2 1, nt, .inl tk))]) := pm 6 rfl [0, 1, 2, 3, 4, 5] (by decide +kernel) rfl
          refine k_v C h hp (r_runV C h hp 0 rfl rfl (As := []) (rest := []) (q_begin l G h0 h1 h2 h3 h4 (d + 1) S P sg pg (by omega)) (cwV 0 C.1.1.2.2.2.2 gX5_reckon_X5_begin rfl rfl rfl (by decide +kernel) ⟨Nat.le_of_ble_eq_true rfl, Nat.le_of_ble_eq_true rfl⟩) rfl hl.1 (Nat.le_of_ble_eq_true rfl) dX5_reckon_142 ⟨Nat.le_of_ble_eq_true rfl, Nat.le_of_ble_eq_true rfl⟩) (fun u_3 H locs hw_4 h => ?_)
          have h : gS G A s ([(h0, .inr (5, [.ref h1, .ref h2, .ref h3, .ref h4, .int (nI (d + 1))])), (h1, .inl (G.2.2 2, 9, .inr (.inl (vp_updL S (d + 1) 0)))), (h2, .inl (G.2.2 2, 9, .inr (.inl (vp_updL P (d + 1) 1)))), (h3, .inl (G.2.2 1, 9, .inl (upd sg (d + 1) 43))), (h4, .inl (G.2.2 1, 9, .inl (upd pg (d + 1) 42))), (ht, .inl (G.2.2 1, nt, .inl tk))]) H locs := h
          refine W.widen (k := 0) (n := 0) (Nat.le_of_ble_eq_true rfl) (Nat.le_of_ble_eq_true rfl) ?_
          refine lv_goto (tgt := 234) hx hb dX5_reckon_145 (by decide) ?_
          obtain ⟨x_5, ex_5⟩ : ∃ y : Int32, y = (nI i) + 1 := ⟨_, rfl⟩
          refine lv_iinc (v := x_5) (lv' := [(4, .int x_5), (5, .int (tk i)), (0, .ref h0), (1, .ref ht), (2, .int dd), (3, .int ll)]) hx hb dX5_reckon_234 hl (k := 5) rfl (by rw [ex_5]; rfl) (by decide) rfl (fun ls hl => ?_)
          refine lv_goto (tgt := 12) hx hb dX5_reckon_237 (by decide) ?_
          exact ih (i + 1) (d + 1) (vp_updL S (d + 1) 0) (vp_updL P (d + 1) 1) (upd sg (d + 1) 43) (upd pg (d + 1) 42) _ _ ls (by omega) (by omega) (by rw [← hz, rkF, rSt, if_pos c_28_40, if_pos h8] <;> rfl) h (by rw [← nI_1, ← ex_5]; exact lv_sub hl [2, 3, 4, 5, 0] rfl)
      by_cases c_28_41 : (-(tk i)) = 41
      · refine lv_lookup (off := 120) (tgt := 148) hx hb dX5_reckon_28 (by decide) (by rw [c_28_41]; decide) (by decide) ?_
        refine lv_aload_n hx hb dX5_reckon_148 rfl (lv_at hl 1 rfl) ?_
        refine r_get C h 0 rfl (Cn := RX5) (T := TX5) (N := 5) rfl hinX5 4 (by decide) (index := 25) (ref := "ScaleHouse$Reckoner") wd0 rfl (v := .int (nI d)) rfl dX5_reckon_149 ?_
        refine lv_if_le (tgt := 234) hx hb dX5_reckon_152 (by decide) (fun c_152 => ?_) (fun c_152 => ?_)
        · have hz0 : ¬ 0 < d := fun z => nI_nle z (by omega) c_152
          obtain ⟨x_6, ex_6⟩ : ∃ y : Int32, y = (nI i) + 1 := ⟨_, rfl⟩
          refine lv_iinc (v := x_6) (lv' := [(4, .int x_6), (5, .int (tk i)), (0, .ref h0), (1, .ref ht), (2, .int dd), (3, .int ll)]) hx hb dX5_reckon_234 hl (k := 5) rfl (by rw [ex_6]; rfl) (by decide) rfl (fun ls hl => ?_)
          refine lv_goto (tgt := 12) hx hb dX5_reckon_237 (by decide) ?_
          exact ih (i + 1) d S P sg pg _ _ ls (by omega) (by omega) (by rw [← hz, rkF, rSt, if_neg c_28_40, if_pos c_28_41, if_neg hz0] <;> rfl) h (by rw [← nI_1, ← ex_6]; exact lv_sub hl [2, 3, 4, 5, 0] rfl)
        · have hz0 : 0 < d := Nat.pos_of_ne_zero (fun z => c_152 (by rw [z]; decide))
          refine lv_aload_n hx hb dX5_reckon_155 rfl (lv_at hl 1 rfl) ?_
          have hp : List.Perm ([(h0, .inr (5, [.ref h1, .ref h2, .ref h3, .ref h4, .int (nI d)])), (h1, .inl (G.2.2 2, 9, .inr (.inl S))), (h2, .inl (G.2.2 2, 9, .inr (.inl P))), (h3, .inl (G.2.2 1, 9, .inl sg)), (h4, .inl (G.2.2 1, 9, .inl pg)), (ht, .inl (G.2.2 1, nt, .inl tk))] : va_W) ([(h0, .inr (5, [.ref h1, .ref h2, .ref h3, .ref h4, .int (nI d)])), (h1, .inl (G.2.2 2, 9, .inr (.inl S))), (h2, .inl (G.2.2 2, 9, .inr (.inl P))), (h3, .inl (G.2.2 1, 9, .inl sg)), (h4, .inl (G.2.2 1, 9, .inl pg))] ++ [(ht, .inl (G.2.2 1, nt, .inl tk))]) := pm 6 rfl [0, 1, 2, 3, 4, 5] (by decide +kernel) rfl
          refine k_l C h hp (r_runV C h hp 0 rfl rfl (As := []) (rest := []) (q_wholeSum l G h0 h1 h2 h3 h4 d S P sg pg (by omega)) (cwV 0 C.1.1.2.2.2.2 gX5_reckon_X5_wholeSum rfl rfl rfl (by decide +kernel) ⟨Nat.le_of_ble_eq_true rfl, Nat.le_of_ble_eq_true rfl⟩) rfl hl.1 (Nat.le_of_ble_eq_true rfl) dX5_reckon_156 ⟨Nat.le_of_ble_eq_true rfl, Nat.le_of_ble_eq_true rfl⟩) (fun r_7 u_8 H locs hw_9 h => ?_)
          have h : gS G A s ([(h0, .inr (5, [.ref h1, .ref h2, .ref h3, .ref h4, .int (nI d)])), (h1, .inl (G.2.2 2, 9, .inr (.inl S))), (h2, .inl (G.2.2 2, 9, .inr (.inl P))), (h3, .inl (G.2.2 1, 9, .inl sg)), (h4, .inl (G.2.2 1, 9, .inl pg)), (ht, .inl (G.2.2 1, nt, .inl tk))]) H locs := h
          refine W.widen (k := 0) (n := 0) (Nat.le_of_ble_eq_true rfl) (Nat.le_of_ble_eq_true rfl) ?_
          subst hw_9
          refine lv_lstore (lv' := [(6, .long (rSm (S d) (P d) (sg d))), (5, .int (tk i)), (0, .ref h0), (1, .ref ht), (2, .int dd), (3, .int ll), (4, .int (nI i))]) hx hb dX5_reckon_159 hl (by decide) rfl (fun ls hl => ?_)
          refine lv_aload_n hx hb dX5_reckon_161 rfl (lv_at hl 2 rfl) ?_
          refine lv_dup hx hb dX5_reckon_162 rfl ?_
          refine r_get C h 0 rfl (Cn := RX5) (T := TX5) (N := 5) rfl hinX5 4 (by decide) (index := 25) (ref := "ScaleHouse$Reckoner") wd0 rfl (v := .int (nI d)) rfl dX5_reckon_163 ?_
          refine lv_iconst (v := 1) hx hb dX5_reckon_166 (by decide) ?_
          refine lv_isub hx hb dX5_reckon_167 ?_
          refine r_put C h 0 rfl (Cn := RX5) (T := TX5) (N := 5) rfl hinX5 tyX5 tyX5_ok nmX5 4 (by decide) (index := 25) (ref := "ScaleHouse$Reckoner") wd0 rfl rfl (v := .int ((nI d) - 1)) rfl rfl (show 4 < 5 by decide) dX5_reckon_168 (fun H locs h => ?_)
          have h : gS G A s ([(h0, .inr (5, [.ref h1, .ref h2, .ref h3, .ref h4, .int ((nI d) - 1)])), (h1, .inl (G.2.2 2, 9, .inr (.inl S))), (h2, .inl (G.2.2 2, 9, .inr (.inl P))), (h3, .inl (G.2.2 1, 9, .inl sg)), (h4, .inl (G.2.2 1, 9, .inl pg)), (ht, .inl (G.2.2 1, nt, .inl tk))]) H locs := h
          rw [show ((nI d) - 1) = nI (d - 1) from by rw [show (1 : Int32) = nI 1 from rfl, pk_sub (by omega)]] at h
          have h : gS G A s ([(h0, .inr (5, [.ref h1, .ref h2, .ref h3, .ref h4, .int (nI (d - 1))])), (h1, .inl (G.2.2 2, 9, .inr (.inl S))), (h2, .inl (G.2.2 2, 9, .inr (.inl P))), (h3, .inl (G.2.2 1, 9, .inl sg)), (h4, .inl (G.2.2 1, 9, .inl pg)), (ht, .inl (G.2.2 1, nt, .inl tk))]) H locs := h
          refine lv_aload_n hx hb dX5_reckon_171 rfl (lv_at hl 2 rfl) ?_
          refine lv_lload hx hb dX5_reckon_172 (lv_at hl 0 rfl) ?_
          have hp : List.Perm ([(h0, .inr (5, [.ref h1, .ref h2, .ref h3, .ref h4, .int (nI (d - 1))])), (h1, .inl (G.2.2 2, 9, .inr (.inl S))), (h2, .inl (G.2.2 2, 9, .inr (.inl P))), (h3, .inl (G.2.2 1, 9, .inl sg)), (h4, .inl (G.2.2 1, 9, .inl pg)), (ht, .inl (G.2.2 1, nt, .inl tk))] : va_W) ([(h0, .inr (5, [.ref h1, .ref h2, .ref h3, .ref h4, .int (nI (d - 1))])), (h1, .inl (G.2.2 2, 9, .inr (.inl S))), (h2, .inl (G.2.2 2, 9, .inr (.inl P))), (h3, .inl (G.2.2 1, 9, .inl sg)), (h4, .inl (G.2.2 1, 9, .inl pg))] ++ [(ht, .inl (G.2.2 1, nt, .inl tk))]) := pm 6 rfl [0, 1, 2, 3, 4, 5] (by decide +kernel) rfl
          refine k_v C h hp (r_runV C h hp 0 rfl rfl (As := [.long (rSm (S d) (P d) (sg d))]) (rest := []) (q_takeFactor l G h0 h1 h2 h3 h4 (d - 1) S P sg pg (by omega) (rSm (S d) (P d) (sg d))) (cwV 1 C.1.1.2.2.2.2 gX5_reckon_X5_takeFactor rfl rfl rfl (by decide +kernel) ⟨Nat.le_of_ble_eq_true rfl, Nat.le_of_ble_eq_true rfl⟩) rfl hl.1 (Nat.le_of_ble_eq_true rfl) dX5_reckon_174 ⟨Nat.le_of_ble_eq_true rfl, Nat.le_of_ble_eq_true rfl⟩) (fun u_11 H locs hw_12 h => ?_)
          have h : gS G A s ([(h0, .inr (5, [.ref h1, .ref h2, .ref h3, .ref h4, .int (nI (d - 1))])), (h1, .inl (G.2.2 2, 9, .inr (.inl S))), (h2, .inl (G.2.2 2, 9, .inr (.inl (vp_updL P (d - 1) (rTk (P (d - 1)) (pg (d - 1)) (rSm (S d) (P d) (sg d))))))), (h3, .inl (G.2.2 1, 9, .inl sg)), (h4, .inl (G.2.2 1, 9, .inl pg)), (ht, .inl (G.2.2 1, nt, .inl tk))]) H locs := h
          refine W.widen (k := 0) (n := 0) (Nat.le_of_ble_eq_true rfl) (Nat.le_of_ble_eq_true rfl) ?_
          refine lv_goto (tgt := 234) hx hb dX5_reckon_177 (by decide) ?_
          obtain ⟨x_13, ex_13⟩ : ∃ y : Int32, y = (nI i) + 1 := ⟨_, rfl⟩
          refine lv_iinc (v := x_13) (lv' := [(4, .int x_13), (6, .long (rSm (S d) (P d) (sg d))), (5, .int (tk i)), (0, .ref h0), (1, .ref ht), (2, .int dd), (3, .int ll)]) hx hb dX5_reckon_234 hl (k := 6) rfl (by rw [ex_13]; rfl) (by decide) rfl (fun ls hl => ?_)
          refine lv_goto (tgt := 12) hx hb dX5_reckon_237 (by decide) ?_
          exact ih (i + 1) (d - 1) S (vp_updL P (d - 1) (rTk (P (d - 1)) (pg (d - 1)) (rSm (S d) (P d) (sg d)))) sg pg _ _ ls (by omega) (by omega) (by rw [← hz, rkF, rSt, if_neg c_28_40, if_pos c_28_41, if_pos hz0] <;> rfl) h (by rw [← nI_1, ← ex_13]; exact lv_sub hl [3, 4, 5, 6, 0] rfl)
      by_cases c_28_42 : (-(tk i)) = 42
      · refine lv_lookup (off := 184) (tgt := 212) hx hb dX5_reckon_28 (by decide) (by rw [c_28_42]; decide) (by decide) ?_
        refine lv_aload_n hx hb dX5_reckon_212 rfl (lv_at hl 1 rfl) ?_
        refine r_get C h 0 rfl (Cn := RX5) (T := TX5) (N := 5) rfl hinX5 3 (by decide) (index := 22) (ref := "ScaleHouse$Reckoner") wd1 rfl (v := .ref h4) rfl dX5_reckon_213 ?_
        refine lv_aload_n hx hb dX5_reckon_216 rfl (lv_at hl 1 rfl) ?_
        refine r_get C h 0 rfl (Cn := RX5) (T := TX5) (N := 5) rfl hinX5 4 (by decide) (index := 25) (ref := "ScaleHouse$Reckoner") wd0 rfl (v := .int (nI d)) rfl dX5_reckon_217 ?_
        refine lv_iload hx hb dX5_reckon_220 (lv_at hl 0 rfl) ?_
        refine lv_ineg hx hb dX5_reckon_222 ?_
        refine r_iast C h 4 rfl (i := (nI d)) (vp_in_nI (by omega) (by decide)) dX5_reckon_223 (fun H locs h => ?_)
        have h : gS G A s ([(h0, .inr (5, [.ref h1, .ref h2, .ref h3, .ref h4, .int (nI d)])), (h1, .inl (G.2.2 2, 9, .inr (.inl S))), (h2, .inl (G.2.2 2, 9, .inr (.inl P))), (h3, .inl (G.2.2 1, 9, .inl sg)), (h4, .inl (G.2.2 1, 9, .inl (upd pg (nI d).toNatClampNeg (-(tk i))))), (ht, .inl (G.2.2 1, nt, .inl tk))]) H locs := h
        rw [show (upd pg (nI d).toNatClampNeg (-(tk i))) = (upd pg d (-(tk i))) from nn_up pg (by omega) _] at h
        have h : gS G A s ([(h0, .inr (5, [.ref h1, .ref h2, .ref h3, .ref h4, .int (nI d)])), (h1, .inl (G.2.2 2, 9, .inr (.inl S))), (h2, .inl (G.2.2 2, 9, .inr (.inl P))), (h3, .inl (G.2.2 1, 9, .inl sg)), (h4, .inl (G.2.2 1, 9, .inl (upd pg d (-(tk i))))), (ht, .inl (G.2.2 1, nt, .inl tk))]) H locs := h
        refine lv_goto (tgt := 234) hx hb dX5_reckon_224 (by decide) ?_
        obtain ⟨x_14, ex_14⟩ : ∃ y : Int32, y = (nI i) + 1 := ⟨_, rfl⟩
        refine lv_iinc (v := x_14) (lv' := [(4, .int x_14), (5, .int (tk i)), (0, .ref h0), (1, .ref ht), (2, .int dd), (3, .int ll)]) hx hb dX5_reckon_234 hl (k := 5) rfl (by rw [ex_14]; rfl) (by decide) rfl (fun ls hl => ?_)
        refine lv_goto (tgt := 12) hx hb dX5_reckon_237 (by decide) ?_
        exact ih (i + 1) d S P sg (upd pg d (-(tk i))) _ _ ls (by omega) (by omega) (by rw [← hz, rkF, rSt, if_neg c_28_40, if_neg c_28_41, if_pos c_28_42] <;> rfl) h (by rw [← nI_1, ← ex_14]; exact lv_sub hl [2, 3, 4, 5, 0] rfl)
      by_cases c_28_43 : (-(tk i)) = 43
      · refine lv_lookup (off := 152) (tgt := 180) hx hb dX5_reckon_28 (by decide) (by rw [c_28_43]; decide) (by decide) ?_
        refine lv_aload_n hx hb dX5_reckon_180 rfl (lv_at hl 1 rfl) ?_
        refine r_get C h 0 rfl (Cn := RX5) (T := TX5) (N := 5) rfl hinX5 0 (by decide) (index := 9) (ref := "ScaleHouse$Reckoner") wd2 rfl (v := .ref h1) rfl dX5_reckon_181 ?_
        refine lv_aload_n hx hb dX5_reckon_184 rfl (lv_at hl 1 rfl) ?_
        refine r_get C h 0 rfl (Cn := RX5) (T := TX5) (N := 5) rfl hinX5 4 (by decide) (index := 25) (ref := "ScaleHouse$Reckoner") wd0 rfl (v := .int (nI d)) rfl dX5_reckon_185 ?_
        refine lv_aload_n hx hb dX5_reckon_188 rfl (lv_at hl 1 rfl) ?_
        have hp : List.Perm ([(h0, .inr (5, [.ref h1, .ref h2, .ref h3, .ref h4, .int (nI d)])), (h1, .inl (G.2.2 2, 9, .inr (.inl S))), (h2, .inl (G.2.2 2, 9, .inr (.inl P))), (h3, .inl (G.2.2 1, 9, .inl sg)), (h4, .inl (G.2.2 1, 9, .inl pg)), (ht, .inl (G.2.2 1, nt, .inl tk))] : va_W) ([(h0, .inr (5, [.ref h1, .ref h2, .ref h3, .ref h4, .int (nI d)])), (h1, .inl (G.2.2 2, 9, .inr (.inl S))), (h2, .inl (G.2.2 2, 9, .inr (.inl P))), (h3, .inl (G.2.2 1, 9, .inl sg)), (h4, .inl (G.2.2 1, 9, .inl pg))] ++ [(ht, .inl (G.2.2 1, nt, .inl tk))]) := pm 6 rfl [0, 1, 2, 3, 4, 5] (by decide +kernel) rfl
        refine k_l C h hp (r_runV C h hp 0 rfl rfl (As := []) (rest := [.int (nI d), .ref h1]) (q_wholeSum l G h0 h1 h2 h3 h4 d S P sg pg (by omega)) (cwV 0 C.1.1.2.2.2.2 gX5_reckon_X5_wholeSum rfl rfl rfl (by decide +kernel) ⟨Nat.le_of_ble_eq_true rfl, Nat.le_of_ble_eq_true rfl⟩) rfl hl.1 (Nat.le_of_ble_eq_true rfl) dX5_reckon_189 ⟨Nat.le_of_ble_eq_true rfl, Nat.le_of_ble_eq_true rfl⟩) (fun r_15 u_16 H locs hw_17 h => ?_)
        have h : gS G A s ([(h0, .inr (5, [.ref h1, .ref h2, .ref h3, .ref h4, .int (nI d)])), (h1, .inl (G.2.2 2, 9, .inr (.inl S))), (h2, .inl (G.2.2 2, 9, .inr (.inl P))), (h3, .inl (G.2.2 1, 9, .inl sg)), (h4, .inl (G.2.2 1, 9, .inl pg)), (ht, .inl (G.2.2 1, nt, .inl tk))]) H locs := h
        refine W.widen (k := 0) (n := 0) (Nat.le_of_ble_eq_true rfl) (Nat.le_of_ble_eq_true rfl) ?_
        subst hw_17
        refine r_last C h 1 rfl (i := (nI d)) (vp_in_nI (by omega) (by decide)) dX5_reckon_192 (fun H locs h => ?_)
        have h : gS G A s ([(h0, .inr (5, [.ref h1, .ref h2, .ref h3, .ref h4, .int (nI d)])), (h1, .inl (G.2.2 2, 9, .inr (.inl (vp_updL S (nI d).toNatClampNeg (rSm (S d) (P d) (sg d)))))), (h2, .inl (G.2.2 2, 9, .inr (.inl P))), (h3, .inl (G.2.2 1, 9, .inl sg)), (h4, .inl (G.2.2 1, 9, .inl pg)), (ht, .inl (G.2.2 1, nt, .inl tk))]) H locs := h
        rw [show (vp_updL S (nI d).toNatClampNeg (rSm (S d) (P d) (sg d))) = (vp_updL S d (rSm (S d) (P d) (sg d))) from nn_upL S (by omega) _] at h
        have h : gS G A s ([(h0, .inr (5, [.ref h1, .ref h2, .ref h3, .ref h4, .int (nI d)])), (h1, .inl (G.2.2 2, 9, .inr (.inl (vp_updL S d (rSm (S d) (P d) (sg d)))))), (h2, .inl (G.2.2 2, 9, .inr (.inl P))), (h3, .inl (G.2.2 1, 9, .inl sg)), (h4, .inl (G.2.2 1, 9, .inl pg)), (ht, .inl (G.2.2 1, nt, .inl tk))]) H locs := h
        refine lv_aload_n hx hb dX5_reckon_193 rfl (lv_at hl 1 rfl) ?_
        refine r_get C h 0 rfl (Cn := RX5) (T := TX5) (N := 5) rfl hinX5 2 (by decide) (index := 18) (ref := "ScaleHouse$Reckoner") wd3 rfl (v := .ref h3) rfl dX5_reckon_194 ?_
        refine lv_aload_n hx hb dX5_reckon_197 rfl (lv_at hl 1 rfl) ?_
        refine r_get C h 0 rfl (Cn := RX5) (T := TX5) (N := 5) rfl hinX5 4 (by decide) (index := 25) (ref := "ScaleHouse$Reckoner") wd0 rfl (v := .int (nI d)) rfl dX5_reckon_198 ?_
        refine lv_iload hx hb dX5_reckon_201 (lv_at hl 0 rfl) ?_
        refine lv_ineg hx hb dX5_reckon_203 ?_
        refine r_iast C h 3 rfl (i := (nI d)) (vp_in_nI (by omega) (by decide)) dX5_reckon_204 (fun H locs h => ?_)
        have h : gS G A s ([(h0, .inr (5, [.ref h1, .ref h2, .ref h3, .ref h4, .int (nI d)])), (h1, .inl (G.2.2 2, 9, .inr (.inl (vp_updL S d (rSm (S d) (P d) (sg d)))))), (h2, .inl (G.2.2 2, 9, .inr (.inl P))), (h3, .inl (G.2.2 1, 9, .inl (upd sg (nI d).toNatClampNeg (-(tk i))))), (h4, .inl (G.2.2 1, 9, .inl pg)), (ht, .inl (G.2.2 1, nt, .inl tk))]) H locs := h
        rw [show (upd sg (nI d).toNatClampNeg (-(tk i))) = (upd sg d (-(tk i))) from nn_up sg (by omega) _] at h
        have h : gS G A s ([(h0, .inr (5, [.ref h1, .ref h2, .ref h3, .ref h4, .int (nI d)])), (h1, .inl (G.2.2 2, 9, .inr (.inl (vp_updL S d (rSm (S d) (P d) (sg d)))))), (h2, .inl (G.2.2 2, 9, .inr (.inl P))), (h3, .inl (G.2.2 1, 9, .inl (upd sg d (-(tk i))))), (h4, .inl (G.2.2 1, 9, .inl pg)), (ht, .inl (G.2.2 1, nt, .inl tk))]) H locs := h
        refine lv_aload_n hx hb dX5_reckon_205 rfl (lv_at hl 1 rfl) ?_
        have hp : List.Perm ([(h0, .inr (5, [.ref h1, .ref h2, .ref h3, .ref h4, .int (nI d)])), (h1, .inl (G.2.2 2, 9, .inr (.inl (vp_updL S d (rSm (S d) (P d) (sg d)))))), (h2, .inl (G.2.2 2, 9, .inr (.inl P))), (h3, .inl (G.2.2 1, 9, .inl (upd sg d (-(tk i))))), (h4, .inl (G.2.2 1, 9, .inl pg)), (ht, .inl (G.2.2 1, nt, .inl tk))] : va_W) ([(h0, .inr (5, [.ref h1, .ref h2, .ref h3, .ref h4, .int (nI d)])), (h1, .inl (G.2.2 2, 9, .inr (.inl (vp_updL S d (rSm (S d) (P d) (sg d)))))), (h2, .inl (G.2.2 2, 9, .inr (.inl P))), (h3, .inl (G.2.2 1, 9, .inl (upd sg d (-(tk i))))), (h4, .inl (G.2.2 1, 9, .inl pg))] ++ [(ht, .inl (G.2.2 1, nt, .inl tk))]) := pm 6 rfl [0, 1, 2, 3, 4, 5] (by decide +kernel) rfl
        refine k_v C h hp (r_runV C h hp 0 rfl rfl (As := []) (rest := []) (q_beginProduct l G h0 h1 h2 h3 h4 d (vp_updL S d (rSm (S d) (P d) (sg d))) P (upd sg d (-(tk i))) pg (by omega)) (cwV 0 C.1.1.2.2.2.2 gX5_reckon_X5_beginProduct rfl rfl rfl (by decide +kernel) ⟨Nat.le_of_ble_eq_true rfl, Nat.le_of_ble_eq_true rfl⟩) rfl hl.1 (Nat.le_of_ble_eq_true rfl) dX5_reckon_206 ⟨Nat.le_of_ble_eq_true rfl, Nat.le_of_ble_eq_true rfl⟩) (fun u_19 H locs hw_20 h => ?_)
        have h : gS G A s ([(h0, .inr (5, [.ref h1, .ref h2, .ref h3, .ref h4, .int (nI d)])), (h1, .inl (G.2.2 2, 9, .inr (.inl (vp_updL S d (rSm (S d) (P d) (sg d)))))), (h2, .inl (G.2.2 2, 9, .inr (.inl (vp_updL P d 1)))), (h3, .inl (G.2.2 1, 9, .inl (upd sg d (-(tk i))))), (h4, .inl (G.2.2 1, 9, .inl (upd pg d 42))), (ht, .inl (G.2.2 1, nt, .inl tk))]) H locs := h
        refine W.widen (k := 0) (n := 0) (Nat.le_of_ble_eq_true rfl) (Nat.le_of_ble_eq_true rfl) ?_
        refine lv_goto (tgt := 234) hx hb dX5_reckon_209 (by decide) ?_
        obtain ⟨x_21, ex_21⟩ : ∃ y : Int32, y = (nI i) + 1 := ⟨_, rfl⟩
        refine lv_iinc (v := x_21) (lv' := [(4, .int x_21), (5, .int (tk i)), (0, .ref h0), (1, .ref ht), (2, .int dd), (3, .int ll)]) hx hb dX5_reckon_234 hl (k := 5) rfl (by rw [ex_21]; rfl) (by decide) rfl (fun ls hl => ?_)
        refine lv_goto (tgt := 12) hx hb dX5_reckon_237 (by decide) ?_
        exact ih (i + 1) d (vp_updL S d (rSm (S d) (P d) (sg d))) (vp_updL P d 1) (upd sg d (-(tk i))) (upd pg d 42) _ _ ls (by omega) (by omega) (by rw [← hz, rkF, rSt, if_neg c_28_40, if_neg c_28_41, if_neg c_28_42, if_pos c_28_43] <;> rfl) h (by rw [← nI_1, ← ex_21]; exact lv_sub hl [2, 3, 4, 5, 0] rfl)
      by_cases c_28_45 : (-(tk i)) = 45
      · refine lv_lookup (off := 152) (tgt := 180) hx hb dX5_reckon_28 (by decide) (by rw [c_28_45]; decide) (by decide) ?_
        refine lv_aload_n hx hb dX5_reckon_180 rfl (lv_at hl 1 rfl) ?_
        refine r_get C h 0 rfl (Cn := RX5) (T := TX5) (N := 5) rfl hinX5 0 (by decide) (index := 9) (ref := "ScaleHouse$Reckoner") wd2 rfl (v := .ref h1) rfl dX5_reckon_181 ?_
        refine lv_aload_n hx hb dX5_reckon_184 rfl (lv_at hl 1 rfl) ?_
        refine r_get C h 0 rfl (Cn := RX5) (T := TX5) (N := 5) rfl hinX5 4 (by decide) (index := 25) (ref := "ScaleHouse$Reckoner") wd0 rfl (v := .int (nI d)) rfl dX5_reckon_185 ?_
        refine lv_aload_n hx hb dX5_reckon_188 rfl (lv_at hl 1 rfl) ?_
        have hp : List.Perm ([(h0, .inr (5, [.ref h1, .ref h2, .ref h3, .ref h4, .int (nI d)])), (h1, .inl (G.2.2 2, 9, .inr (.inl S))), (h2, .inl (G.2.2 2, 9, .inr (.inl P))), (h3, .inl (G.2.2 1, 9, .inl sg)), (h4, .inl (G.2.2 1, 9, .inl pg)), (ht, .inl (G.2.2 1, nt, .inl tk))] : va_W) ([(h0, .inr (5, [.ref h1, .ref h2, .ref h3, .ref h4, .int (nI d)])), (h1, .inl (G.2.2 2, 9, .inr (.inl S))), (h2, .inl (G.2.2 2, 9, .inr (.inl P))), (h3, .inl (G.2.2 1, 9, .inl sg)), (h4, .inl (G.2.2 1, 9, .inl pg))] ++ [(ht, .inl (G.2.2 1, nt, .inl tk))]) := pm 6 rfl [0, 1, 2, 3, 4, 5] (by decide +kernel) rfl
        refine k_l C h hp (r_runV C h hp 0 rfl rfl (As := []) (rest := [.int (nI d), .ref h1]) (q_wholeSum l G h0 h1 h2 h3 h4 d S P sg pg (by omega)) (cwV 0 C.1.1.2.2.2.2 gX5_reckon_X5_wholeSum rfl rfl rfl (by decide +kernel) ⟨Nat.le_of_ble_eq_true rfl, Nat.le_of_ble_eq_true rfl⟩) rfl hl.1 (Nat.le_of_ble_eq_true rfl) dX5_reckon_189 ⟨Nat.le_of_ble_eq_true rfl, Nat.le_of_ble_eq_true rfl⟩) (fun r_22 u_23 H locs hw_24 h => ?_)
        have h : gS G A s ([(h0, .inr (5, [.ref h1, .ref h2, .ref h3, .ref h4, .int (nI d)])), (h1, .inl (G.2.2 2, 9, .inr (.inl S))), (h2, .inl (G.2.2 2, 9, .inr (.inl P))), (h3, .inl (G.2.2 1, 9, .inl sg)), (h4, .inl (G.2.2 1, 9, .inl pg)), (ht, .inl (G.2.2 1, nt, .inl tk))]) H locs := h
        refine W.widen (k := 0) (n := 0) (Nat.le_of_ble_eq_true rfl) (Nat.le_of_ble_eq_true rfl) ?_
        subst hw_24
        refine r_last C h 1 rfl (i := (nI d)) (vp_in_nI (by omega) (by decide)) dX5_reckon_192 (fun H locs h => ?_)
        have h : gS G A s ([(h0, .inr (5, [.ref h1, .ref h2, .ref h3, .ref h4, .int (nI d)])), (h1, .inl (G.2.2 2, 9, .inr (.inl (vp_updL S (nI d).toNatClampNeg (rSm (S d) (P d) (sg d)))))), (h2, .inl (G.2.2 2, 9, .inr (.inl P))), (h3, .inl (G.2.2 1, 9, .inl sg)), (h4, .inl (G.2.2 1, 9, .inl pg)), (ht, .inl (G.2.2 1, nt, .inl tk))]) H locs := h
        rw [show (vp_updL S (nI d).toNatClampNeg (rSm (S d) (P d) (sg d))) = (vp_updL S d (rSm (S d) (P d) (sg d))) from nn_upL S (by omega) _] at h
        have h : gS G A s ([(h0, .inr (5, [.ref h1, .ref h2, .ref h3, .ref h4, .int (nI d)])), (h1, .inl (G.2.2 2, 9, .inr (.inl (vp_updL S d (rSm (S d) (P d) (sg d)))))), (h2, .inl (G.2.2 2, 9, .inr (.inl P))), (h3, .inl (G.2.2 1, 9, .inl sg)), (h4, .inl (G.2.2 1, 9, .inl pg)), (ht, .inl (G.2.2 1, nt, .inl tk))]) H locs := h
        refine lv_aload_n hx hb dX5_reckon_193 rfl (lv_at hl 1 rfl) ?_
        refine r_get C h 0 rfl (Cn := RX5) (T := TX5) (N := 5) rfl hinX5 2 (by decide) (index := 18) (ref := "ScaleHouse$Reckoner") wd3 rfl (v := .ref h3) rfl dX5_reckon_194 ?_
        refine lv_aload_n hx hb dX5_reckon_197 rfl (lv_at hl 1 rfl) ?_
        refine r_get C h 0 rfl (Cn := RX5) (T := TX5) (N := 5) rfl hinX5 4 (by decide) (index := 25) (ref := "ScaleHouse$Reckoner") wd0 rfl (v := .int (nI d)) rfl dX5_reckon_198 ?_
        refine lv_iload hx hb dX5_reckon_201 (lv_at hl 0 rfl) ?_
        refine lv_ineg hx hb dX5_reckon_203 ?_
        refine r_iast C h 3 rfl (i := (nI d)) (vp_in_nI (by omega) (by decide)) dX5_reckon_204 (fun H locs h => ?_)
        have h : gS G A s ([(h0, .inr (5, [.ref h1, .ref h2, .ref h3, .ref h4, .int (nI d)])), (h1, .inl (G.2.2 2, 9, .inr (.inl (vp_updL S d (rSm (S d) (P d) (sg d)))))), (h2, .inl (G.2.2 2, 9, .inr (.inl P))), (h3, .inl (G.2.2 1, 9, .inl (upd sg (nI d).toNatClampNeg (-(tk i))))), (h4, .inl (G.2.2 1, 9, .inl pg)), (ht, .inl (G.2.2 1, nt, .inl tk))]) H locs := h
        rw [show (upd sg (nI d).toNatClampNeg (-(tk i))) = (upd sg d (-(tk i))) from nn_up sg (by omega) _] at h
        have h : gS G A s ([(h0, .inr (5, [.ref h1, .ref h2, .ref h3, .ref h4, .int (nI d)])), (h1, .inl (G.2.2 2, 9, .inr (.inl (vp_updL S d (rSm (S d) (P d) (sg d)))))), (h2, .inl (G.2.2 2, 9, .inr (.inl P))), (h3, .inl (G.2.2 1, 9, .inl (upd sg d (-(tk i))))), (h4, .inl (G.2.2 1, 9, .inl pg)), (ht, .inl (G.2.2 1, nt, .inl tk))]) H locs := h
        refine lv_aload_n hx hb dX5_reckon_205 rfl (lv_at hl 1 rfl) ?_
        have hp : List.Perm ([(h0, .inr (5, [.ref h1, .ref h2, .ref h3, .ref h4, .int (nI d)])), (h1, .inl (G.2.2 2, 9, .inr (.inl (vp_updL S d (rSm (S d) (P d) (sg d)))))), (h2, .inl (G.2.2 2, 9, .inr (.inl P))), (h3, .inl (G.2.2 1, 9, .inl (upd sg d (-(tk i))))), (h4, .inl (G.2.2 1, 9, .inl pg)), (ht, .inl (G.2.2 1, nt, .inl tk))] : va_W) ([(h0, .inr (5, [.ref h1, .ref h2, .ref h3, .ref h4, .int (nI d)])), (h1, .inl (G.2.2 2, 9, .inr (.inl (vp_updL S d (rSm (S d) (P d) (sg d)))))), (h2, .inl (G.2.2 2, 9, .inr (.inl P))), (h3, .inl (G.2.2 1, 9, .inl (upd sg d (-(tk i))))), (h4, .inl (G.2.2 1, 9, .inl pg))] ++ [(ht, .inl (G.2.2 1, nt, .inl tk))]) := pm 6 rfl [0, 1, 2, 3, 4, 5] (by decide +kernel) rfl
        refine k_v C h hp (r_runV C h hp 0 rfl rfl (As := []) (rest := []) (q_beginProduct l G h0 h1 h2 h3 h4 d (vp_updL S d (rSm (S d) (P d) (sg d))) P (upd sg d (-(tk i))) pg (by omega)) (cwV 0 C.1.1.2.2.2.2 gX5_reckon_X5_beginProduct rfl rfl rfl (by decide +kernel) ⟨Nat.le_of_ble_eq_true rfl, Nat.le_of_ble_eq_true rfl⟩) rfl hl.1 (Nat.le_of_ble_eq_true rfl) dX5_reckon_206 ⟨Nat.le_of_ble_eq_true rfl, Nat.le_of_ble_eq_true rfl⟩) (fun u_26 H locs hw_27 h => ?_)
        have h : gS G A s ([(h0, .inr (5, [.ref h1, .ref h2, .ref h3, .ref h4, .int (nI d)])), (h1, .inl (G.2.2 2, 9, .inr (.inl (vp_updL S d (rSm (S d) (P d) (sg d)))))), (h2, .inl (G.2.2 2, 9, .inr (.inl (vp_updL P d 1)))), (h3, .inl (G.2.2 1, 9, .inl (upd sg d (-(tk i))))), (h4, .inl (G.2.2 1, 9, .inl (upd pg d 42))), (ht, .inl (G.2.2 1, nt, .inl tk))]) H locs := h
        refine W.widen (k := 0) (n := 0) (Nat.le_of_ble_eq_true rfl) (Nat.le_of_ble_eq_true rfl) ?_
        refine lv_goto (tgt := 234) hx hb dX5_reckon_209 (by decide) ?_
        obtain ⟨x_28, ex_28⟩ : ∃ y : Int32, y = (nI i) + 1 := ⟨_, rfl⟩
        refine lv_iinc (v := x_28) (lv' := [(4, .int x_28), (5, .int (tk i)), (0, .ref h0), (1, .ref ht), (2, .int dd), (3, .int ll)]) hx hb dX5_reckon_234 hl (k := 5) rfl (by rw [ex_28]; rfl) (by decide) rfl (fun ls hl => ?_)
        refine lv_goto (tgt := 12) hx hb dX5_reckon_237 (by decide) ?_
        exact ih (i + 1) d (vp_updL S d (rSm (S d) (P d) (sg d))) (vp_updL P d 1) (upd sg d (-(tk i))) (upd pg d 42) _ _ ls (by omega) (by omega) (by rw [← hz, rkF, rSt, if_neg c_28_40, if_neg c_28_41, if_neg c_28_42, if_neg c_28_43, if_pos c_28_45] <;> rfl) h (by rw [← nI_1, ← ex_28]; exact lv_sub hl [2, 3, 4, 5, 0] rfl)
      by_cases c_28_47 : (-(tk i)) = 47
      · refine lv_lookup (off := 184) (tgt := 212) hx hb dX5_reckon_28 (by decide) (by rw [c_28_47]; decide) (by decide) ?_
        refine lv_aload_n hx hb dX5_reckon_212 rfl (lv_at hl 1 rfl) ?_
        refine r_get C h 0 rfl (Cn := RX5) (T := TX5) (N := 5) rfl hinX5 3 (by decide) (index := 22) (ref := "ScaleHouse$Reckoner") wd1 rfl (v := .ref h4) rfl dX5_reckon_213 ?_
        refine lv_aload_n hx hb dX5_reckon_216 rfl (lv_at hl 1 rfl) ?_
        refine r_get C h 0 rfl (Cn := RX5) (T := TX5) (N := 5) rfl hinX5 4 (by decide) (index := 25) (ref := "ScaleHouse$Reckoner") wd0 rfl (v := .int (nI d)) rfl dX5_reckon_217 ?_
        refine lv_iload hx hb dX5_reckon_220 (lv_at hl 0 rfl) ?_
        refine lv_ineg hx hb dX5_reckon_222 ?_
        refine r_iast C h 4 rfl (i := (nI d)) (vp_in_nI (by omega) (by decide)) dX5_reckon_223 (fun H locs h => ?_)
        have h : gS G A s ([(h0, .inr (5, [.ref h1, .ref h2, .ref h3, .ref h4, .int (nI d)])), (h1, .inl (G.2.2 2, 9, .inr (.inl S))), (h2, .inl (G.2.2 2, 9, .inr (.inl P))), (h3, .inl (G.2.2 1, 9, .inl sg)), (h4, .inl (G.2.2 1, 9, .inl (upd pg (nI d).toNatClampNeg (-(tk i))))), (ht, .inl (G.2.2 1, nt, .inl tk))]) H locs := h
        rw [show (upd pg (nI d).toNatClampNeg (-(tk i))) = (upd pg d (-(tk i))) from nn_up pg (by omega) _] at h
        have h : gS G A s ([(h0, .inr (5, [.ref h1, .ref h2, .ref h3, .ref h4, .int (nI d)])), (h1, .inl (G.2.2 2, 9, .inr (.inl S))), (h2, .inl (G.2.2 2, 9, .inr (.inl P))), (h3, .inl (G.2.2 1, 9, .inl sg)), (h4, .inl (G.2.2 1, 9, .inl (upd pg d (-(tk i))))), (ht, .inl (G.2.2 1, nt, .inl tk))]) H locs := h
        refine lv_goto (tgt := 234) hx hb dX5_reckon_224 (by decide) ?_
        obtain ⟨x_29, ex_29⟩ : ∃ y : Int32, y = (nI i) + 1 := ⟨_, rfl⟩
        refine lv_iinc (v := x_29) (lv' := [(4, .int x_29), (5, .int (tk i)), (0, .ref h0), (1, .ref ht), (2, .int dd), (3, .int ll)]) hx hb dX5_reckon_234 hl (k := 5) rfl (by rw [ex_29]; rfl) (by decide) rfl (fun ls hl => ?_)
        refine lv_goto (tgt := 12) hx hb dX5_reckon_237 (by decide) ?_
        exact ih (i + 1) d S P sg (upd pg d (-(tk i))) _ _ ls (by omega) (by omega) (by rw [← hz, rkF, rSt, if_neg c_28_40, if_neg c_28_41, if_neg c_28_42, if_neg c_28_43, if_neg c_28_45, if_pos c_28_47] <;> rfl) h (by rw [← nI_1, ← ex_29]; exact lv_sub hl [2, 3, 4, 5, 0] rfl)
      by_cases c_28_100 : (-(tk i)) = 100
      · refine lv_lookup (off := 76) (tgt := 104) hx hb dX5_reckon_28 (by decide) (by rw [c_28_100]; decide) (by decide) ?_
        refine lv_aload_n hx hb dX5_reckon_104 rfl (lv_at hl 1 rfl) ?_
        refine lv_iload_n hx hb dX5_reckon_105 rfl (lv_at hl 3 rfl) ?_
        refine lv_i2l hx hb dX5_reckon_106 rfl ?_
        have hp : List.Perm ([(h0, .inr (5, [.ref h1, .ref h2, .ref h3, .ref h4, .int (nI d)])), (h1, .inl (G.2.2 2, 9, .inr (.inl S))), (h2, .inl (G.2.2 2, 9, .inr (.inl P))), (h3, .inl (G.2.2 1, 9, .inl sg)), (h4, .inl (G.2.2 1, 9, .inl pg)), (ht, .inl (G.2.2 1, nt, .inl tk))] : va_W) ([(h0, .inr (5, [.ref h1, .ref h2, .ref h3, .ref h4, .int (nI d)])), (h1, .inl (G.2.2 2, 9, .inr (.inl S))), (h2, .inl (G.2.2 2, 9, .inr (.inl P))), (h3, .inl (G.2.2 1, 9, .inl sg)), (h4, .inl (G.2.2 1, 9, .inl pg))] ++ [(ht, .inl (G.2.2 1, nt, .inl tk))]) := pm 6 rfl [0, 1, 2, 3, 4, 5] (by decide +kernel) rfl
        refine k_v C h hp (r_runV C h hp 0 rfl rfl (As := [.long dd.toInt64]) (rest := []) (q_takeFactor l G h0 h1 h2 h3 h4 d S P sg pg (by omega) dd.toInt64) (cwV 1 C.1.1.2.2.2.2 gX5_reckon_X5_takeFactor rfl rfl rfl (by decide +kernel) ⟨Nat.le_of_ble_eq_true rfl, Nat.le_of_ble_eq_true rfl⟩) rfl hl.1 (Nat.le_of_ble_eq_true rfl) dX5_reckon_107 ⟨Nat.le_of_ble_eq_true rfl, Nat.le_of_ble_eq_true rfl⟩) (fun u_31 H locs hw_32 h => ?_)
        have h : gS G A s ([(h0, .inr (5, [.ref h1, .ref h2, .ref h3, .ref h4, .int (nI d)])), (h1, .inl (G.2.2 2, 9, .inr (.inl S))), (h2, .inl (G.2.2 2, 9, .inr (.inl (vp_updL P d (rTk (P d) (pg d) dd.toInt64))))), (h3, .inl (G.2.2 1, 9, .inl sg)), (h4, .inl (G.2.2 1, 9, .inl pg)), (ht, .inl (G.2.2 1, nt, .inl tk))]) H locs := h
        refine W.widen (k := 0) (n := 0) (Nat.le_of_ble_eq_true rfl) (Nat.le_of_ble_eq_true rfl) ?_
        refine lv_goto (tgt := 234) hx hb dX5_reckon_110 (by decide) ?_
        obtain ⟨x_33, ex_33⟩ : ∃ y : Int32, y = (nI i) + 1 := ⟨_, rfl⟩
        refine lv_iinc (v := x_33) (lv' := [(4, .int x_33), (5, .int (tk i)), (0, .ref h0), (1, .ref ht), (2, .int dd), (3, .int ll)]) hx hb dX5_reckon_234 hl (k := 5) rfl (by rw [ex_33]; rfl) (by decide) rfl (fun ls hl => ?_)
        refine lv_goto (tgt := 12) hx hb dX5_reckon_237 (by decide) ?_
        exact ih (i + 1) d S (vp_updL P d (rTk (P d) (pg d) dd.toInt64)) sg pg _ _ ls (by omega) (by omega) (by rw [← hz, rkF, rSt, if_neg c_28_40, if_neg c_28_41, if_neg c_28_42, if_neg c_28_43, if_neg c_28_45, if_neg c_28_47, if_pos c_28_100] <;> rfl) h (by rw [← nI_1, ← ex_33]; exact lv_sub hl [2, 3, 4, 5, 0] rfl)
      by_cases c_28_108 : (-(tk i)) = 108
      · refine lv_lookup (off := 85) (tgt := 113) hx hb dX5_reckon_28 (by decide) (by rw [c_28_108]; decide) (by decide) ?_
        refine lv_aload_n hx hb dX5_reckon_113 rfl (lv_at hl 1 rfl) ?_
        refine lv_iload_n hx hb dX5_reckon_114 rfl (lv_at hl 4 rfl) ?_
        refine lv_i2l hx hb dX5_reckon_115 rfl ?_
        have hp : List.Perm ([(h0, .inr (5, [.ref h1, .ref h2, .ref h3, .ref h4, .int (nI d)])), (h1, .inl (G.2.2 2, 9, .inr (.inl S))), (h2, .inl (G.2.2 2, 9, .inr (.inl P))), (h3, .inl (G.2.2 1, 9, .inl sg)), (h4, .inl (G.2.2 1, 9, .inl pg)), (ht, .inl (G.2.2 1, nt, .inl tk))] : va_W) ([(h0, .inr (5, [.ref h1, .ref h2, .ref h3, .ref h4, .int (nI d)])), (h1, .inl (G.2.2 2, 9, .inr (.inl S))), (h2, .inl (G.2.2 2, 9, .inr (.inl P))), (h3, .inl (G.2.2 1, 9, .inl sg)), (h4, .inl (G.2.2 1, 9, .inl pg))] ++ [(ht, .inl (G.2.2 1, nt, .inl tk))]) := pm 6 rfl [0, 1, 2, 3, 4, 5] (by decide +kernel) rfl
        refine k_v C h hp (r_runV C h hp 0 rfl rfl (As := [.long ll.toInt64]) (rest := []) (q_takeFactor l G h0 h1 h2 h3 h4 d S P sg pg (by omega) ll.toInt64) (cwV 1 C.1.1.2.2.2.2 gX5_reckon_X5_takeFactor rfl rfl rfl (by decide +kernel) ⟨Nat.le_of_ble_eq_true rfl, Nat.le_of_ble_eq_true rfl⟩) rfl hl.1 (Nat.le_of_ble_eq_true rfl) dX5_reckon_116 ⟨Nat.le_of_ble_eq_true rfl, Nat.le_of_ble_eq_true rfl⟩) (fun u_35 H locs hw_36 h => ?_)
        have h : gS G A s ([(h0, .inr (5, [.ref h1, .ref h2, .ref h3, .ref h4, .int (nI d)])), (h1, .inl (G.2.2 2, 9, .inr (.inl S))), (h2, .inl (G.2.2 2, 9, .inr (.inl (vp_updL P d (rTk (P d) (pg d) ll.toInt64))))), (h3, .inl (G.2.2 1, 9, .inl sg)), (h4, .inl (G.2.2 1, 9, .inl pg)), (ht, .inl (G.2.2 1, nt, .inl tk))]) H locs := h
        refine W.widen (k := 0) (n := 0) (Nat.le_of_ble_eq_true rfl) (Nat.le_of_ble_eq_true rfl) ?_
        refine lv_goto (tgt := 234) hx hb dX5_reckon_119 (by decide) ?_
        obtain ⟨x_37, ex_37⟩ : ∃ y : Int32, y = (nI i) + 1 := ⟨_, rfl⟩
        refine lv_iinc (v := x_37) (lv' := [(4, .int x_37), (5, .int (tk i)), (0, .ref h0), (1, .ref ht), (2, .int dd), (3, .int ll)]) hx hb dX5_reckon_234 hl (k := 5) rfl (by rw [ex_37]; rfl) (by decide) rfl (fun ls hl => ?_)
        refine lv_goto (tgt := 12) hx hb dX5_reckon_237 (by decide) ?_
        exact ih (i + 1) d S (vp_updL P d (rTk (P d) (pg d) ll.toInt64)) sg pg _ _ ls (by omega) (by omega) (by rw [← hz, rkF, rSt, if_neg c_28_40, if_neg c_28_41, if_neg c_28_42, if_neg c_28_43, if_neg c_28_45, if_neg c_28_47, if_neg c_28_100, if_pos c_28_108] <;> rfl) h (by rw [← nI_1, ← ex_37]; exact lv_sub hl [2, 3, 4, 5, 0] rfl)
      refine lv_lookup (off := 199) (tgt := 227) hx hb dX5_reckon_28 (by decide) (by rw [show (#[(40, 94), (41, 120), (42, 184), (43, 152), (45, 152), (47, 184), (100, 76), (108, 85)] : Array (Int × Int)).toList = [(40, 94), (41, 120), (42, 184), (43, 152), (45, 152), (47, 184), (100, 76), (108, 85)] from rfl, lv_osw (a := 40) c_28_40 (by decide), lv_osw (a := 41) c_28_41 (by decide), lv_osw (a := 42) c_28_42 (by decide), lv_osw (a := 43) c_28_43 (by decide), lv_osw (a := 45) c_28_45 (by decide), lv_osw (a := 47) c_28_47 (by decide), lv_osw (a := 100) c_28_100 (by decide), lv_osw (a := 108) c_28_108 (by decide)]; rfl) (by decide) ?_
      refine lv_aload_n hx hb dX5_reckon_227 rfl (lv_at hl 1 rfl) ?_
      refine lv_iload hx hb dX5_reckon_228 (lv_at hl 0 rfl) ?_
      refine lv_i2l hx hb dX5_reckon_230 rfl ?_
      have hp : List.Perm ([(h0, .inr (5, [.ref h1, .ref h2, .ref h3, .ref h4, .int (nI d)])), (h1, .inl (G.2.2 2, 9, .inr (.inl S))), (h2, .inl (G.2.2 2, 9, .inr (.inl P))), (h3, .inl (G.2.2 1, 9, .inl sg)), (h4, .inl (G.2.2 1, 9, .inl pg)), (ht, .inl (G.2.2 1, nt, .inl tk))] : va_W) ([(h0, .inr (5, [.ref h1, .ref h2, .ref h3, .ref h4, .int (nI d)])), (h1, .inl (G.2.2 2, 9, .inr (.inl S))), (h2, .inl (G.2.2 2, 9, .inr (.inl P))), (h3, .inl (G.2.2 1, 9, .inl sg)), (h4, .inl (G.2.2 1, 9, .inl pg))] ++ [(ht, .inl (G.2.2 1, nt, .inl tk))]) := pm 6 rfl [0, 1, 2, 3, 4, 5] (by decide +kernel) rfl
      refine k_v C h hp (r_runV C h hp 0 rfl rfl (As := [.long ((tk i).toInt64)]) (rest := []) (q_takeFactor l G h0 h1 h2 h3 h4 d S P sg pg (by omega) ((tk i).toInt64)) (cwV 1 C.1.1.2.2.2.2 gX5_reckon_X5_takeFactor rfl rfl rfl (by decide +kernel) ⟨Nat.le_of_ble_eq_true rfl, Nat.le_of_ble_eq_true rfl⟩) rfl hl.1 (Nat.le_of_ble_eq_true rfl) dX5_reckon_231 ⟨Nat.le_of_ble_eq_true rfl, Nat.le_of_ble_eq_true rfl⟩) (fun u_39 H locs hw_40 h => ?_)
      have h : gS G A s ([(h0, .inr (5, [.ref h1, .ref h2, .ref h3, .ref h4, .int (nI d)])), (h1, .inl (G.2.2 2, 9, .inr (.inl S))), (h2, .inl (G.2.2 2, 9, .inr (.inl (vp_updL P d (rTk (P d) (pg d) ((tk i).toInt64)))))), (h3, .inl (G.2.2 1, 9, .inl sg)), (h4, .inl (G.2.2 1, 9, .inl pg)), (ht, .inl (G.2.2 1, nt, .inl tk))]) H locs := h
      refine W.widen (k := 0) (n := 0) (Nat.le_of_ble_eq_true rfl) (Nat.le_of_ble_eq_true rfl) ?_
      obtain ⟨x_41, ex_41⟩ : ∃ y : Int32, y = (nI i) + 1 := ⟨_, rfl⟩
      refine lv_iinc (v := x_41) (lv' := [(4, .int x_41), (5, .int (tk i)), (0, .ref h0), (1, .ref ht), (2, .int dd), (3, .int ll)]) hx hb dX5_reckon_234 hl (k := 5) rfl (by rw [ex_41]; rfl) (by decide) rfl (fun ls hl => ?_)
      refine lv_goto (tgt := 12) hx hb dX5_reckon_237 (by decide) ?_
      exact ih (i + 1) d S (vp_updL P d (rTk (P d) (pg d) ((tk i).toInt64))) sg pg _ _ ls (by omega) (by omega) (by rw [← hz, rkF, rSt, if_neg c_28_40, if_neg c_28_41, if_neg c_28_42, if_neg c_28_43, if_neg c_28_45, if_neg c_28_47, if_neg c_28_100, if_neg c_28_108] <;> rfl) h (by rw [← nI_1, ← ex_41]; exact lv_sub hl [2, 3, 4, 5, 0] rfl)

/-- what a law is worth: the Reckoner's answer, whatever its rows held before -/
def rkV (tk : Nat → Int32) (nt : Nat) (dd ll : Int32) (S P : Nat → Int64) (sg pg : Nat → Int32) : RS := rkF tk dd ll nt 0 (0, vp_updL S 0 0, vp_updL P 0 1, upd sg 0 43, upd pg 0 42)

set_option maxHeartbeats 4000000 in
set_option maxRecDepth 100000 in
theorem q_reckon (l : Launch) (G : gG) (h0 h1 h2 h3 h4 ht nt d0 : Nat) (tk : Nat → Int32) (dd ll : Int32) (S P : Nat → Int64) (sg pg : Nat → Int32) (hnt : nt < 2 ^ 30) : cM l yX5_reckon wsX5_reckon 3 80 (0) (0) G [.ref h0, .ref ht, .int dd, .int ll] ([(h0, .inr (5, [.ref h1, .ref h2, .ref h3, .ref h4, .int (nI d0)])), (h1, .inl (G.2.2 2, 9, .inr (.inl S))), (h2, .inl (G.2.2 2, 9, .inr (.inl P))), (h3, .inl (G.2.2 1, 9, .inl sg)), (h4, .inl (G.2.2 1, 9, .inl pg)), (ht, .inl (G.2.2 1, nt, .inl tk))]) (qL G (S := Unit) (fun r _ => r = rSum (rkV tk nt dd ll S P sg pg)) (fun _ => [(h0, .inr (5, [.ref h1, .ref h2, .ref h3, .ref h4, .int (nI (rkV tk nt dd ll S P sg pg).1)])), (h1, .inl (G.2.2 2, 9, .inr (.inl ((rkV tk nt dd ll S P sg pg).2.1)))), (h2, .inl (G.2.2 2, 9, .inr (.inl ((rkV tk nt dd ll S P sg pg).2.2.1)))), (h3, .inl (G.2.2 1, 9, .inl ((rkV tk nt dd ll S P sg pg).2.2.2.1))), (h4, .inl (G.2.2 1, 9, .inl ((rkV tk nt dd ll S P sg pg).2.2.2.2))), (ht, .inl (G.2.2 1, nt, .inl tk))])) := by
  refine o_M (cc := cX5_reckon) (maxL := 8) (ret := (some .long)) (own := RX5) (by decide +kernel) rfl rfl (Nat.le_of_ble_eq_true rfl) ?_
  intro p e s m below meth c A ls H locs hA C h hr hlk hnm hl
  have hx := C.1.1.1
  have hb := C.1.1.2.1
  have hl : lv_has ls 8 [(0, .ref h0), (1, .ref ht), (2, .int dd), (3, .int ll)] := hl
  have wd0 : Cond.fieldLink RX5 25 "ScaleHouse$Reckoner" "depth" "I" ∈ wsX5_reckon := by decide +kernel
  have hinX5 : ∀ w ∈ wsX50, w ∈ wsX5_reckon := by decide +kernel
  refine lv_aload_n hx hb dX5_reckon_0 rfl (lv_at hl 0 rfl) ?_
  refine lv_iconst (v := 0) hx hb dX5_reckon_1 (by decide) ?_
  refine r_put C h 0 rfl (Cn := RX5) (T := TX5) (N := 5) rfl hinX5 tyX5 tyX5_ok nmX5 4 (by decide) (index := 25) (ref := "ScaleHouse$Reckoner") wd0 rfl rfl (v := .int 0) rfl rfl (show 4 < 5 by decide) dX5_reckon_2 (fun H locs h => ?_)
  have h : gS G A s ([(h0, .inr (5, [.ref h1, .ref h2, .ref h3, .ref h4, .int 0])), (h1, .inl (G.2.2 2, 9, .inr (.inl S))), (h2, .inl (G.2.2 2, 9, .inr (.inl P))), (h3, .inl (G.2.2 1, 9, .inl sg)), (h4, .inl (G.2.2 1, 9, .inl pg)), (ht, .inl (G.2.2 1, nt, .inl tk))]) H locs := h
  rw [show 0 = nI 0 from rfl] at h
  have h : gS G A s ([(h0, .inr (5, [.ref h1, .ref h2, .ref h3, .ref h4, .int (nI 0)])), (h1, .inl (G.2.2 2, 9, .inr (.inl S))), (h2, .inl (G.2.2 2, 9, .inr (.inl P))), (h3, .inl (G.2.2 1, 9, .inl sg)), (h4, .inl (G.2.2 1, 9, .inl pg)), (ht, .inl (G.2.2 1, nt, .inl tk))]) H locs := h
  refine lv_aload_n hx hb dX5_reckon_5 rfl (lv_at hl 0 rfl) ?_
  have hp : List.Perm ([(h0, .inr (5, [.ref h1, .ref h2, .ref h3, .ref h4, .int (nI 0)])), (h1, .inl (G.2.2 2, 9, .inr (.inl S))), (h2, .inl (G.2.2 2, 9, .inr (.inl P))), (h3, .inl (G.2.2 1, 9, .inl sg)), (h4, .inl (G.2.2 1, 9, .inl pg)), (ht, .inl (G.2.2 1, nt, .inl tk))] : va_W) ([(h0, .inr (5, [.ref h1, .ref h2, .ref h3, .ref h4, .int (nI 0)])), (h1, .inl (G.2.2 2, 9, .inr (.inl S))), (h2, .inl (G.2.2 2, 9, .inr (.inl P))), (h3, .inl (G.2.2 1, 9, .inl sg)), (h4, .inl (G.2.2 1, 9, .inl pg))] ++ [(ht, .inl (G.2.2 1, nt, .inl tk))]) := pm 6 rfl [0, 1, 2, 3, 4, 5] (by decide +kernel) rfl
  refine k_v C h hp (r_runV C h hp 0 rfl rfl (As := []) (rest := []) (q_begin l G h0 h1 h2 h3 h4 0 S P sg pg (by omega)) (cwV 0 C.1.1.2.2.2.2 gX5_reckon_X5_begin rfl rfl rfl (by decide +kernel) ⟨Nat.le_of_ble_eq_true rfl, Nat.le_of_ble_eq_true rfl⟩) rfl hl.1 (Nat.le_of_ble_eq_true rfl) dX5_reckon_6 ⟨Nat.le_of_ble_eq_true rfl, Nat.le_of_ble_eq_true rfl⟩) (fun u_2 H locs hw_3 h => ?_)
  have h : gS G A s ([(h0, .inr (5, [.ref h1, .ref h2, .ref h3, .ref h4, .int (nI 0)])), (h1, .inl (G.2.2 2, 9, .inr (.inl (vp_updL S 0 0)))), (h2, .inl (G.2.2 2, 9, .inr (.inl (vp_updL P 0 1)))), (h3, .inl (G.2.2 1, 9, .inl (upd sg 0 43))), (h4, .inl (G.2.2 1, 9, .inl (upd pg 0 42))), (ht, .inl (G.2.2 1, nt, .inl tk))]) H locs := h
  refine W.widen (k := 0) (n := 0) (Nat.le_of_ble_eq_true rfl) (Nat.le_of_ble_eq_true rfl) ?_
  refine lv_iconst (v := 0) hx hb dX5_reckon_9 (by decide) ?_
  refine lv_istore (lv' := [(4, .int 0), (0, .ref h0), (1, .ref ht), (2, .int dd), (3, .int ll)]) hx hb dX5_reckon_10 hl (by decide) rfl (fun ls hl => ?_)
  refine lp_X5_reckon C h0 h1 h2 h3 h4 ht nt tk dd ll (rkV tk nt dd ll S P sg pg) hnt (fun H locs ls hd8 h hl => ?_) nt 0 0 _ _ _ _ _ _ ls (by omega) (by omega) rfl h (lv_sub hl [1, 2, 3, 4, 0] rfl)
  generalize hzz : rkV tk nt dd ll S P sg pg = z at h hd8 ⊢
  refine lv_aload_n hx hb dX5_reckon_240 rfl (lv_at hl 0 rfl) ?_
  have hp : List.Perm ([(h0, .inr (5, [.ref h1, .ref h2, .ref h3, .ref h4, .int (nI z.1)])), (h1, .inl (G.2.2 2, 9, .inr (.inl z.2.1))), (h2, .inl (G.2.2 2, 9, .inr (.inl z.2.2.1))), (h3, .inl (G.2.2 1, 9, .inl z.2.2.2.1)), (h4, .inl (G.2.2 1, 9, .inl z.2.2.2.2)), (ht, .inl (G.2.2 1, nt, .inl tk))] : va_W) ([(h0, .inr (5, [.ref h1, .ref h2, .ref h3, .ref h4, .int (nI z.1)])), (h1, .inl (G.2.2 2, 9, .inr (.inl z.2.1))), (h2, .inl (G.2.2 2, 9, .inr (.inl z.2.2.1))), (h3, .inl (G.2.2 1, 9, .inl z.2.2.2.1)), (h4, .inl (G.2.2 1, 9, .inl z.2.2.2.2))] ++ [(ht, .inl (G.2.2 1, nt, .inl tk))]) := pm 6 rfl [0, 1, 2, 3, 4, 5] (by decide +kernel) rfl
  refine k_l C h hp (r_runV C h hp 0 rfl rfl (As := []) (rest := []) (q_wholeSum l G h0 h1 h2 h3 h4 z.1 z.2.1 z.2.2.1 z.2.2.2.1 z.2.2.2.2 (by omega)) (cwV 0 C.1.1.2.2.2.2 gX5_reckon_X5_wholeSum rfl rfl rfl (by decide +kernel) ⟨Nat.le_of_ble_eq_true rfl, Nat.le_of_ble_eq_true rfl⟩) rfl hl.1 (Nat.le_of_ble_eq_true rfl) dX5_reckon_241 ⟨Nat.le_of_ble_eq_true rfl, Nat.le_of_ble_eq_true rfl⟩) (fun r_1 u_2 H locs hw_3 h => ?_)
  have h : gS G A s ([(h0, .inr (5, [.ref h1, .ref h2, .ref h3, .ref h4, .int (nI z.1)])), (h1, .inl (G.2.2 2, 9, .inr (.inl z.2.1))), (h2, .inl (G.2.2 2, 9, .inr (.inl z.2.2.1))), (h3, .inl (G.2.2 1, 9, .inl z.2.2.2.1)), (h4, .inl (G.2.2 1, 9, .inl z.2.2.2.2)), (ht, .inl (G.2.2 1, nt, .inl tk))]) H locs := h
  refine W.widen (k := 0) (n := 0) (Nat.le_of_ble_eq_true rfl) (Nat.le_of_ble_eq_true rfl) ?_
  subst hw_3
  exact r_lret C h hr hlk (Nat.zero_le _) (Nat.zero_le _) () (rfl) (rfl) dX5_reckon_244
