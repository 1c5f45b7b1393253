def mFo (fr td : Nat → Int32) (day q : Int32) : Nat → Nat → Int32 → Int32
  | 0, _, b => b
  | r + 1, i, b => mFo fr td day q r (i + 1) (if q < td i then b else if day < fr i then b else if b = -1 then nI i else if fr i < fr b.toNatClampNeg then b else nI i)
def mEr (st pa fr td : Nat → Int32) (stick day q : Int32) : Nat → Nat → Int32 → Int32 → Int32
  | 0, _, _, v => v
  | r + 1, i, u, v => if st i = stick then (if q < td i then mEr st pa fr td stick day q r (i + 1) u v else if day < fr i then mEr st pa fr td stick day q r (i + 1) u v else if u ≤ fr i then mEr st pa fr td stick day q r (i + 1) (fr i) (pa i) else mEr st pa fr td stick day q r (i + 1) u v) else mEr st pa fr td stick day q r (i + 1) u v

set_option maxHeartbeats 4000000 in
set_option maxRecDepth 100000 in
theorem lp_X10_inForce {p : Program} {l : Launch} {e : Env} {R : Room} {s : State} {m : MethodId} {args : Array Value} {below : List Frame} {meth : Method} {c : Code} {cells slots : Nat} {Q : State → Prop} {G : gG} {A : Nat → Prop} (C : gC p m c cX10_inForce 5 s args wsX10_inForce RX10 G A) (ad : Nat → Nat) (I : Nat → Int32) (F : Nat → Nat → Int32) (rw : Nat) (gd gl : Int64) (n : Nat) (day q z : Int32) (hn : I 25 = nI n) (hn2 : n ≤ 20) (kx : ∀ (H : Heap) (locs : List Loc) (ls : Array Slot), gS G A s (mW G ad I F rw gd gl) H locs → lv_has ls 5 [(3, .int z)] → W p l e R s m args below meth c H locs cells slots Q (F0 m 66 ls [])) :
    ∀ (r : Nat) (i : Nat) (t : Int32) (H : Heap) (locs : List Loc) (ls : Array Slot), (i + r = n) → (t = -1 ∨ ∃ j, j < i ∧ t = nI j) → (mFo (F 4) (F 5) day q r i t = z) →  gS G A s (mW G ad I F rw gd gl) H locs → lv_has ls 5 [(0, .ref (ad 0)), (1, .int day), (2, .int q), (3, .int t), (4, .int (nI i))] → W p l e R s m args below meth c H locs cells slots Q (F0 m 5 ls []) := by
  have hx := C.1.1.1
  have hb := C.1.1.2.1
  have wd0 : Cond.fieldLink RX10 199 "ScaleHouseModel" "laws" "I" ∈ wsX10_inForce := by decide +kernel
  have hinX10 : ∀ w ∈ wsX100, w ∈ wsX10_inForce := fun _ h => List.mem_cons_of_mem _ (List.mem_append_right _ h)
  have wd1 : Cond.fieldLink RX10 23 "ScaleHouseModel" "lawTold" "[I" ∈ wsX10_inForce := by decide +kernel
  have wd2 : Cond.fieldLink RX10 20 "ScaleHouseModel" "lawFrom" "[I" ∈ wsX10_inForce := by decide +kernel
  intro r
  induction r with
  | zero =>
    intro i t H locs ls hi ht hz h hl
    refine lv_iload hx hb dX10_inForce_5 (lv_at hl 4 rfl) ?_
    refine lv_aload_n hx hb dX10_inForce_7 rfl (lv_at hl 0 rfl) ?_
    refine r_get C h 0 rfl (Cn := RX10) (T := TX10) (N := 50) rfl hinX10 25 (by decide) (index := 199) (ref := "ScaleHouseModel") wd0 rfl (v := .int (I 25)) rfl dX10_inForce_8 ?_
    refine lv_icmp_ge (tgt := 66) hx hb dX10_inForce_11 (by decide) (fun c_11 => ?_) (fun c_11 => ?_)
    · subst hz
      exact kx _ _ ls h (lv_sub hl [3] rfl)
    · exact absurd (by rw [hn, show i = n by omega]; exact Int32.le_refl _) c_11
  | succ r ih =>
    intro i t H locs ls hi ht hz h hl
    refine lv_iload hx hb dX10_inForce_5 (lv_at hl 4 rfl) ?_
    refine lv_aload_n hx hb dX10_inForce_7 rfl (lv_at hl 0 rfl) ?_
    refine r_get C h 0 rfl (Cn := RX10) (T := TX10) (N := 50) rfl hinX10 25 (by decide) (index := 199) (ref := "ScaleHouseModel") wd0 rfl (v := .int (I 25)) rfl dX10_inForce_8 ?_
    refine lv_icmp_ge (tgt := 66) hx hb dX10_inForce_11 (by decide) (fun c_11 => ?_) (fun c_11 => ?_)
    · exact absurd c_11 (by rw [hn]; exact nI_ge (by omega) (by omega))
    · refine lv_aload_n hx hb dX10_inForce_14 rfl (lv_at hl 0 rfl) ?_
      refine r_get C h 0 rfl (Cn := RX10) (T := TX10) (N := 50) rfl hinX10 5 (by decide) (index := 23) (ref := "ScaleHouseModel") wd1 rfl (v := .ref (ad 5)) rfl dX10_inForce_15 ?_
      refine lv_iload hx hb dX10_inForce_18 (lv_at hl 4 rfl) ?_
      refine r_iald C h 5 rfl (i := (nI i)) (vp_in_nI (by omega) (by decide)) dX10_inForce_20 ?_
      refine lv_cgi (y := (F 5 i)) (nn_at (F 5) (by omega)) ?_
      refine lv_iload_n hx hb dX10_inForce_21 rfl (lv_at hl 2 rfl) ?_
      refine lv_icmp_gt (tgt := 60) hx hb dX10_inForce_22 (by decide) (fun c_22 => ?_) (fun c_22 => ?_)
      · obtain ⟨x_1, ex_1⟩ : ∃ y : Int32, y = (nI i) + 1 := ⟨_, rfl⟩
        refine lv_iinc (v := x_1) (lv' := [(4, .int x_1), (0, .ref (ad 0)), (1, .int day), (2, .int q), (3, .int t)]) hx hb dX10_inForce_60 hl (k := 4) rfl (by rw [ex_1]; rfl) (by decide) rfl (fun ls hl => ?_)
        refine lv_goto (tgt := 5) hx hb dX10_inForce_63 (by decide) ?_
        exact ih (i + 1) t _ _ ls (by omega) (ht.elim Or.inl (fun ⟨j, hj, e⟩ => Or.inr ⟨j, by omega, e⟩)) (by rw [← hz, mFo]; simp only [if_pos c_22]) h (by rw [← nI_1, ← ex_1]; exact lv_sub hl [1, 2, 3, 4, 0] rfl)
      · refine lv_aload_n hx hb dX10_inForce_25 rfl (lv_at hl 0 rfl) ?_
        refine r_get C h 0 rfl (Cn := RX10) (T := TX10) (N := 50) rfl hinX10 4 (by decide) (index := 20) (ref := "ScaleHouseModel") wd2 rfl (v := .ref (ad 4)) rfl dX10_inForce_26 ?_
        refine lv_iload hx hb dX10_inForce_29 (lv_at hl 4 rfl) ?_
        refine r_iald C h 4 rfl (i := (nI i)) (vp_in_nI (by omega) (by decide)) dX10_inForce_31 ?_
        refine lv_cgi (y := (F 4 i)) (nn_at (F 4) (by omega)) ?_
        refine lv_iload_n hx hb dX10_inForce_32 rfl (lv_at hl 1 rfl) ?_
        refine lv_icmp_gt (tgt := 60) hx hb dX10_inForce_33 (by decide) (fun c_33 => ?_) (fun c_33 => ?_)
        · obtain ⟨x_2, ex_2⟩ : ∃ y : Int32, y = (nI i) + 1 := ⟨_, rfl⟩
          refine lv_iinc (v := x_2) (lv' := [(4, .int x_2), (0, .ref (ad 0)), (1, .int day), (2, .int q), (3, .int t)]) hx hb dX10_inForce_60 hl (k := 4) rfl (by rw [ex_2]; rfl) (by decide) rfl (fun ls hl => ?_)
          refine lv_goto (tgt := 5) hx hb dX10_inForce_63 (by decide) ?_
          exact ih (i + 1) t _ _ ls (by omega) (ht.elim Or.inl (fun ⟨j, hj, e⟩ => Or.inr ⟨j, by omega, e⟩)) (by rw [← hz, mFo]; simp only [if_neg c_22, if_pos c_33]) h (by rw [← nI_1, ← ex_2]; exact lv_sub hl [1, 2, 3, 4, 0] rfl)
        · refine lv_iload_n hx hb dX10_inForce_36 rfl (lv_at hl 3 rfl) ?_
          refine lv_iconst (v := -1) hx hb dX10_inForce_37 (by decide) ?_
          refine lv_icmp_eq (tgt := 57) hx hb dX10_inForce_38 (by decide) (fun c_38 => ?_) (fun c_38 => ?_)
          · refine lv_iload hx hb dX10_inForce_57 (lv_at hl 4 rfl) ?_
            refine lv_istore_n (lv' := [(3, .int (nI i)), (0, .ref (ad 0)), (1, .int day), (2, .int q), (4, .int (nI i))]) hx hb dX10_inForce_59 rfl hl (by decide) rfl (fun ls hl => ?_)
            obtain ⟨x_3, ex_3⟩ : ∃ y : Int32, y = (nI i) + 1 := ⟨_, rfl⟩
            refine lv_iinc (v := x_3) (lv' := [(4, .int x_3), (3, .int (nI i)), (0, .ref (ad 0)), (1, .int day), (2, .int q)]) hx hb dX10_inForce_60 hl (k := 4) rfl (by rw [ex_3]; rfl) (by decide) rfl (fun ls hl => ?_)
            refine lv_goto (tgt := 5) hx hb dX10_inForce_63 (by decide) ?_
            exact ih (i + 1) (nI i) _ _ ls (by omega) (Or.inr ⟨i, by omega, rfl⟩) (by rw [← hz, mFo]; simp only [if_neg c_22, if_neg c_33, if_pos c_38]) h (by rw [← nI_1, ← ex_3]; exact lv_sub hl [2, 3, 4, 1, 0] rfl)
          · refine lv_aload_n hx hb dX10_inForce_41 rfl (lv_at hl 0 rfl) ?_
            refine r_get C h 0 rfl (Cn := RX10) (T := TX10) (N := 50) rfl hinX10 4 (by decide) (index := 20) (ref := "ScaleHouseModel") wd2 rfl (v := .ref (ad 4)) rfl dX10_inForce_42 ?_
            refine lv_iload hx hb dX10_inForce_45 (lv_at hl 4 rfl) ?_
            refine r_iald C h 4 rfl (i := (nI i)) (vp_in_nI (by omega) (by decide)) dX10_inForce_47 ?_
            refine lv_cgi (y := (F 4 i)) (nn_at (F 4) (by omega)) ?_
            refine lv_aload_n hx hb dX10_inForce_48 rfl (lv_at hl 0 rfl) ?_
            refine r_get C h 0 rfl (Cn := RX10) (T := TX10) (N := 50) rfl hinX10 4 (by decide) (index := 20) (ref := "ScaleHouseModel") wd2 rfl (v := .ref (ad 4)) rfl dX10_inForce_49 ?_
            refine lv_iload_n hx hb dX10_inForce_52 rfl (lv_at hl 3 rfl) ?_
            refine r_iald C h 4 rfl (i := t) (by obtain ⟨j, hj, rfl⟩ := ht.resolve_left c_38; exact vp_in_nI (by omega) (by decide)) dX10_inForce_53 ?_
            refine lv_icmp_lt (tgt := 60) hx hb dX10_inForce_54 (by decide) (fun c_54 => ?_) (fun c_54 => ?_)
            · obtain ⟨x_4, ex_4⟩ : ∃ y : Int32, y = (nI i) + 1 := ⟨_, rfl⟩
              refine lv_iinc (v := x_4) (lv' := [(4, .int x_4), (0, .ref (ad 0)), (1, .int day), (2, .int q), (3, .int t)]) hx hb dX10_inForce_60 hl (k := 4) rfl (by rw [ex_4]; rfl) (by decide) rfl (fun ls hl => ?_)
              refine lv_goto (tgt := 5) hx hb dX10_inForce_63 (by decide) ?_
              exact ih (i + 1) t _ _ ls (by omega) (ht.elim Or.inl (fun ⟨j, hj, e⟩ => Or.inr ⟨j, by omega, e⟩)) (by rw [← hz, mFo]; simp only [if_neg c_22, if_neg c_33, if_neg c_38, if_pos c_54]) h (by rw [← nI_1, ← ex_4]; exact lv_sub hl [1, 2, 3, 4, 0] rfl)
            · refine lv_iload hx hb dX10_inForce_57 (lv_at hl 4 rfl) ?_
              refine lv_istore_n (lv' := [(3, .int (nI i)), (0, .ref (ad 0)), (1, .int day), (2, .int q), (4, .int (nI i))]) hx hb dX10_inForce_59 rfl hl (by decide) rfl (fun ls hl => ?_)
              obtain ⟨x_5, ex_5⟩ : ∃ y : Int32, y = (nI i) + 1 := ⟨_, rfl⟩
              refine lv_iinc (v := x_5) (lv' := [(4, .int x_5), (3, .int (nI i)), (0, .ref (ad 0)), (1, .int day), (2, .int q)]) hx hb dX10_inForce_60 hl (k := 4) rfl (by rw [ex_5]; rfl) (by decide) rfl (fun ls hl => ?_)
              refine lv_goto (tgt := 5) hx hb dX10_inForce_63 (by decide) ?_
              exact ih (i + 1) (nI i) _ _ ls (by omega) (Or.inr ⟨i, by omega, rfl⟩) (by rw [← hz, mFo]; simp only [if_neg c_22, if_neg c_33, if_neg c_38, if_neg c_54]) h (by rw [← nI_1, ← ex_5]; exact lv_sub hl [2, 3, 4, 1, 0] rfl)

set_option maxHeartbeats 4000000 in
set_option maxRecDepth 100000 in
theorem m_inForce (l : Launch) (G : gG) (ad : Nat → Nat) (I : Nat → Int32) (F : Nat → Nat → Int32) (rw : Nat) (gd gl : Int64) (n : Nat) (day q : Int32) (hn : I 25 = nI n) (hn2 : n ≤ 20) : cM l yX10_inForce wsX10_inForce 0 0 (0) (0) G [.ref (ad 0), .int day, .int q] (mW G ad I F rw gd gl) (qI G (S := Unit) (fun r _ => r = mFo (F 4) (F 5) day q n 0 (-1)) (fun _ => mW G ad I F rw gd gl)) := by
  refine o_M (cc := cX10_inForce) (maxL := 5) (ret := (some .int)) (own := RX10) (by decide +kernel) rfl rfl (Nat.le_of_ble_eq_true rfl) ?_
  intro p e s m below meth c A ls H locs hA C h hr hlk hnm hl
  have hx := C.1.1.1
  have hb := C.1.1.2.1
  have hl : lv_has ls 5 [(0, .ref (ad 0)), (1, .int day), (2, .int q)] := hl
  refine lv_iconst (v := -1) hx hb dX10_inForce_0 (by decide) ?_
  refine lv_istore_n (lv' := [(3, .int (-1)), (0, .ref (ad 0)), (1, .int day), (2, .int q)]) hx hb dX10_inForce_1 rfl hl (by decide) rfl (fun ls hl => ?_)
  refine lv_iconst (v := 0) hx hb dX10_inForce_2 (by decide) ?_
  refine lv_istore (lv' := [(4, .int 0), (3, .int (-1)), (0, .ref (ad 0)), (1, .int day), (2, .int q)]) hx hb dX10_inForce_3 hl (by decide) rfl (fun ls hl => ?_)
  refine lp_X10_inForce C ad I F rw gd gl n day q (mFo (F 4) (F 5) day q n 0 (-1)) hn hn2 (fun H locs ls h hl => ?_) n 0 (-1) _ _ ls (by omega) (Or.inl rfl) rfl h (lv_sub hl [2, 3, 4, 1, 0] rfl)
  refine lv_iload_n hx hb dX10_inForce_66 rfl (lv_at hl 0 rfl) ?_
  exact r_iret C h hr hlk (Nat.zero_le _) (Nat.zero_le _) () rfl rfl dX10_inForce_67

set_option maxHeartbeats 4000000 in
set_option maxRecDepth 100000 in
theorem lp_X10_errorOn {p : Program} {l : Launch} {e : Env} {R : Room} {s : State} {m : MethodId} {args : Array Value} {below : List Frame} {meth : Method} {c : Code} {cells slots : Nat} {Q : State → Prop} {G : gG} {A : Nat → Prop} (C : gC p m c cX10_errorOn 7 s args wsX10_errorOn RX10 G A) (ad : Nat → Nat) (I : Nat → Int32) (F : Nat → Nat → Int32) (rw : Nat) (gd gl : Int64) (n : Nat) (stick day q z : Int32) (hn : I 26 = nI n) (hn2 : n ≤ 60) (kx : ∀ (H : Heap) (locs : List Loc) (ls : Array Slot), gS G A s (mW G ad I F rw gd gl) H locs → lv_has ls 7 [(5, .int z)] → W p l e R s m args below meth c H locs cells slots Q (F0 m 90 ls [])) :
    ∀ (r : Nat) (i : Nat) (u v : Int32) (H : Heap) (locs : List Loc) (ls : Array Slot), (i + r = n) → (mEr (F 6) (F 7) (F 8) (F 9) stick day q r i u v = z) →  gS G A s (mW G ad I F rw gd gl) H locs → lv_has ls 7 [(0, .ref (ad 0)), (1, .int stick), (2, .int day), (3, .int q), (4, .int u), (5, .int v), (6, .int (nI i))] → W p l e R s m args below meth c H locs cells slots Q (F0 m 9 ls []) := by
  have hx := C.1.1.1
  have hb := C.1.1.2.1
  have wd0 : Cond.fieldLink RX10 216 "ScaleHouseModel" "errors" "I" ∈ wsX10_errorOn := by decide +kernel
  have hinX10 : ∀ w ∈ wsX100, w ∈ wsX10_errorOn := fun _ h => List.mem_cons_of_mem _ (List.mem_append_right _ h)
  have wd1 : Cond.fieldLink RX10 26 "ScaleHouseModel" "errorStick" "[I" ∈ wsX10_errorOn := by decide +kernel
  have wd2 : Cond.fieldLink RX10 35 "ScaleHouseModel" "errorTold" "[I" ∈ wsX10_errorOn := by decide +kernel
  have wd3 : Cond.fieldLink RX10 32 "ScaleHouseModel" "errorFrom" "[I" ∈ wsX10_errorOn := by decide +kernel
  have wd4 : Cond.fieldLink RX10 29 "ScaleHouseModel" "errorParts" "[I" ∈ wsX10_errorOn := by decide +kernel
  intro r
  induction r with
  | zero =>
    intro i u v H locs ls hi hz h hl
    refine lv_iload hx hb dX10_errorOn_9 (lv_at hl 6 rfl) ?_
    refine lv_aload_n hx hb dX10_errorOn_11 rfl (lv_at hl 0 rfl) ?_
    refine r_get C h 0 rfl (Cn := RX10) (T := TX10) (N := 50) rfl hinX10 26 (by decide) (index := 216) (ref := "ScaleHouseModel") wd0 rfl (v := .int (I 26)) rfl dX10_errorOn_12 ?_
    refine lv_icmp_ge (tgt := 90) hx hb dX10_errorOn_15 (by decide) (fun c_15 => ?_) (fun c_15 => ?_)
    · subst hz
      exact kx _ _ ls h (lv_sub hl [5] rfl)
    · exact absurd (by rw [hn, show i = n by omega]; exact Int32.le_refl _) c_15
  | succ r ih =>
    intro i u v H locs ls hi hz h hl
    refine lv_iload hx hb dX10_errorOn_9 (lv_at hl 6 rfl) ?_
    refine lv_aload_n hx hb dX10_errorOn_11 rfl (lv_at hl 0 rfl) ?_
    refine r_get C h 0 rfl (Cn := RX10) (T := TX10) (N := 50) rfl hinX10 26 (by decide) (index := 216) (ref := "ScaleHouseModel") wd0 rfl (v := .int (I 26)) rfl dX10_errorOn_12 ?_
    refine lv_icmp_ge (tgt := 90) hx hb dX10_errorOn_15 (by decide) (fun c_15 => ?_) (fun c_15 => ?_)
    · exact absurd c_15 (by rw [hn]; exact nI_ge (by omega) (by omega))
    · refine lv_aload_n hx hb dX10_errorOn_18 rfl (lv_at hl 0 rfl) ?_
      refine r_get C h 0 rfl (Cn := RX10) (T := TX10) (N := 50) rfl hinX10 6 (by decide) (index := 26) (ref := "ScaleHouseModel") wd1 rfl (v := .ref (ad 6)) rfl dX10_errorOn_19 ?_
      refine lv_iload hx hb dX10_errorOn_22 (lv_at hl 6 rfl) ?_
      refine r_iald C h 6 rfl (i := (nI i)) (vp_in_nI (by omega) (by decide)) dX10_errorOn_24 ?_
      refine lv_cgi (y := (F 6 i)) (nn_at (F 6) (by omega)) ?_
      refine lv_iload_n hx hb dX10_errorOn_25 rfl (lv_at hl 1 rfl) ?_
      refine lv_icmp_ne (tgt := 84) hx hb dX10_errorOn_26 (by decide) (fun c_26 => ?_) (fun c_26 => ?_)
      · obtain ⟨x_1, ex_1⟩ : ∃ y : Int32, y = (nI i) + 1 := ⟨_, rfl⟩
        refine lv_iinc (v := x_1) (lv' := [(6, .int x_1), (0, .ref (ad 0)), (1, .int stick), (2, .int day), (3, .int q), (4, .int u), (5, .int v)]) hx hb dX10_errorOn_84 hl (k := 6) rfl (by rw [ex_1]; rfl) (by decide) rfl (fun ls hl => ?_)
        refine lv_goto (tgt := 9) hx hb dX10_errorOn_87 (by decide) ?_
        exact ih (i + 1) u v _ _ ls (by omega) (by rw [← hz, mEr]; simp only [if_neg c_26]) h (by rw [← nI_1, ← ex_1]; exact lv_sub hl [1, 2, 3, 4, 5, 6, 0] rfl)
      · refine lv_aload_n hx hb dX10_errorOn_29 rfl (lv_at hl 0 rfl) ?_
        refine r_get C h 0 rfl (Cn := RX10) (T := TX10) (N := 50) rfl hinX10 9 (by decide) (index := 35) (ref := "ScaleHouseModel") wd2 rfl (v := .ref (ad 9)) rfl dX10_errorOn_30 ?_
        refine lv_iload hx hb dX10_errorOn_33 (lv_at hl 6 rfl) ?_
        refine r_iald C h 9 rfl (i := (nI i)) (vp_in_nI (by omega) (by decide)) dX10_errorOn_35 ?_
        refine lv_cgi (y := (F 9 i)) (nn_at (F 9) (by omega)) ?_
        refine lv_iload_n hx hb dX10_errorOn_36 rfl (lv_at hl 3 rfl) ?_
        refine lv_icmp_gt (tgt := 84) hx hb dX10_errorOn_37 (by decide) (fun c_37 => ?_) (fun c_37 => ?_)
        · obtain ⟨x_2, ex_2⟩ : ∃ y : Int32, y = (nI i) + 1 := ⟨_, rfl⟩
          refine lv_iinc (v := x_2) (lv' := [(6, .int x_2), (0, .ref (ad 0)), (1, .int stick), (2, .int day), (3, .int q), (4, .int u), (5, .int v)]) hx hb dX10_errorOn_84 hl (k := 6) rfl (by rw [ex_2]; rfl) (by decide) rfl (fun ls hl => ?_)
          refine lv_goto (tgt := 9) hx hb dX10_errorOn_87 (by decide) ?_
          exact ih (i + 1) u v _ _ ls (by omega) (by rw [← hz, mEr]; simp only [if_pos c_26, if_pos c_37]) h (by rw [← nI_1, ← ex_2]; exact lv_sub hl [1, 2, 3, 4, 5, 6, 0] rfl)
        · refine lv_aload_n hx hb dX10_errorOn_40 rfl (lv_at hl 0 rfl) ?_
          refine r_get C h 0 rfl (Cn := RX10) (T := TX10) (N := 50) rfl hinX10 8 (by decide) (index := 32) (ref := "ScaleHouseModel") wd3 rfl (v := .ref (ad 8)) rfl dX10_errorOn_41 ?_
          refine lv_iload hx hb dX10_errorOn_44 (lv_at hl 6 rfl) ?_
          refine r_iald C h 8 rfl (i := (nI i)) (vp_in_nI (by omega) (by decide)) dX10_errorOn_46 ?_
          refine lv_cgi (y := (F 8 i)) (nn_at (F 8) (by omega)) ?_
          refine lv_iload_n hx hb dX10_errorOn_47 rfl (lv_at hl 2 rfl) ?_
          refine lv_icmp_gt (tgt := 84) hx hb dX10_errorOn_48 (by decide) (fun c_48 => ?_) (fun c_48 => ?_)
          · obtain ⟨x_3, ex_3⟩ : ∃ y : Int32, y = (nI i) + 1 := ⟨_, rfl⟩
            refine lv_iinc (v := x_3) (lv' := [(6, .int x_3), (0, .ref (ad 0)), (1, .int stick), (2, .int day), (3, .int q), (4, .int u), (5, .int v)]) hx hb dX10_errorOn_84 hl (k := 6) rfl (by rw [ex_3]; rfl) (by decide) rfl (fun ls hl => ?_)
            refine lv_goto (tgt := 9) hx hb dX10_errorOn_87 (by decide) ?_
            exact ih (i + 1) u v _ _ ls (by omega) (by rw [← hz, mEr]; simp only [if_pos c_26, if_neg c_37, if_pos c_48]) h (by rw [← nI_1, ← ex_3]; exact lv_sub hl [1, 2, 3, 4, 5, 6, 0] rfl)
          · refine lv_aload_n hx hb dX10_errorOn_51 rfl (lv_at hl 0 rfl) ?_
            refine r_get C h 0 rfl (Cn := RX10) (T := TX10) (N := 50) rfl hinX10 8 (by decide) (index := 32) (ref := "ScaleHouseModel") wd3 rfl (v := .ref (ad 8)) rfl dX10_errorOn_52 ?_
            refine lv_iload hx hb dX10_errorOn_55 (lv_at hl 6 rfl) ?_
            refine r_iald C h 8 rfl (i := (nI i)) (vp_in_nI (by omega) (by decide)) dX10_errorOn_57 ?_
            refine lv_cgi (y := (F 8 i)) (nn_at (F 8) (by omega)) ?_
            refine lv_iload hx hb dX10_errorOn_58 (lv_at hl 4 rfl) ?_
            refine lv_icmp_ge (tgt := 66) hx hb dX10_errorOn_60 (by decide) (fun c_60 => ?_) (fun c_60 => ?_)
            · refine lv_aload_n hx hb dX10_errorOn_66 rfl (lv_at hl 0 rfl) ?_
              refine r_get C h 0 rfl (Cn := RX10) (T := TX10) (N := 50) rfl hinX10 8 (by decide) (index := 32) (ref := "ScaleHouseModel") wd3 rfl (v := .ref (ad 8)) rfl dX10_errorOn_67 ?_
              refine lv_iload hx hb dX10_errorOn_70 (lv_at hl 6 rfl) ?_
              refine r_iald C h 8 rfl (i := (nI i)) (vp_in_nI (by omega) (by decide)) dX10_errorOn_72 ?_
              refine lv_cgi (y := (F 8 i)) (nn_at (F 8) (by omega)) ?_
              refine lv_istore (lv' := [(4, .int (F 8 i)), (0, .ref (ad 0)), (1, .int stick), (2, .int day), (3, .int q), (5, .int v), (6, .int (nI i))]) hx hb dX10_errorOn_73 hl (by decide) rfl (fun ls hl => ?_)
              refine lv_aload_n hx hb dX10_errorOn_75 rfl (lv_at hl 1 rfl) ?_
              refine r_get C h 0 rfl (Cn := RX10) (T := TX10) (N := 50) rfl hinX10 7 (by decide) (index := 29) (ref := "ScaleHouseModel") wd4 rfl (v := .ref (ad 7)) rfl dX10_errorOn_76 ?_
              refine lv_iload hx hb dX10_errorOn_79 (lv_at hl 6 rfl) ?_
              refine r_iald C h 7 rfl (i := (nI i)) (vp_in_nI (by omega) (by decide)) dX10_errorOn_81 ?_
              refine lv_cgi (y := (F 7 i)) (nn_at (F 7) (by omega)) ?_
              refine lv_istore (lv' := [(5, .int (F 7 i)), (4, .int (F 8 i)), (0, .ref (ad 0)), (1, .int stick), (2, .int day), (3, .int q), (6, .int (nI i))]) hx hb dX10_errorOn_82 hl (by decide) rfl (fun ls hl => ?_)
              obtain ⟨x_4, ex_4⟩ : ∃ y : Int32, y = (nI i) + 1 := ⟨_, rfl⟩
              refine lv_iinc (v := x_4) (lv' := [(6, .int x_4), (5, .int (F 7 i)), (4, .int (F 8 i)), (0, .ref (ad 0)), (1, .int stick), (2, .int day), (3, .int q)]) hx hb dX10_errorOn_84 hl (k := 6) rfl (by rw [ex_4]; rfl) (by decide) rfl (fun ls hl => ?_)
              refine lv_goto (tgt := 9) hx hb dX10_errorOn_87 (by decide) ?_
              exact ih (i + 1) (F 8 i) (F 7 i) _ _ ls (by omega) (by rw [← hz, mEr]; simp only [if_pos c_26, if_neg c_37, if_neg c_48, if_pos c_60]) h (by rw [← nI_1, ← ex_4]; exact lv_sub hl [3, 4, 5, 6, 2, 1, 0] rfl)
            · refine lv_goto (tgt := 84) hx hb dX10_errorOn_63 (by decide) ?_
              obtain ⟨x_5, ex_5⟩ : ∃ y : Int32, y = (nI i) + 1 := ⟨_, rfl⟩
              refine lv_iinc (v := x_5) (lv' := [(6, .int x_5), (0, .ref (ad 0)), (1, .int stick), (2, .int day), (3, .int q), (4, .int u), (5, .int v)]) hx hb dX10_errorOn_84 hl (k := 6) rfl (by rw [ex_5]; rfl) (by decide) rfl (fun ls hl => ?_)
              refine lv_goto (tgt := 9) hx hb dX10_errorOn_87 (by decide) ?_
              exact ih (i + 1) u v _ _ ls (by omega) (by rw [← hz, mEr]; simp only [if_pos c_26, if_neg c_37, if_neg c_48, if_neg c_60]) h (by rw [← nI_1, ← ex_5]; exact lv_sub hl [1, 2, 3, 4, 5, 6, 0] rfl)

set_option maxHeartbeats 4000000 in
set_option maxRecDepth 100000 in
theorem m_errorOn (l : Launch) (G : gG) (ad : Nat → Nat) (I : Nat → Int32) (F : Nat → Nat → Int32) (rw : Nat) (gd gl : Int64) (n : Nat) (stick day q : Int32) (hn : I 26 = nI n) (hn2 : n ≤ 60) : cM l yX10_errorOn wsX10_errorOn 0 0 (0) (0) G [.ref (ad 0), .int stick, .int day, .int q] (mW G ad I F rw gd gl) (qI G (S := Unit) (fun r _ => r = mEr (F 6) (F 7) (F 8) (F 9) stick day q n 0 (-1) 0) (fun _ => mW G ad I F rw gd gl)) := by
  refine o_M (cc := cX10_errorOn) (maxL := 7) (ret := (some .int)) (own := RX10) (by decide +kernel) rfl rfl (Nat.le_of_ble_eq_true rfl) ?_
  intro p e s m below meth c A ls H locs hA C h hr hlk hnm hl
  have hx := C.1.1.1
  have hb := C.1.1.2.1
  have hl : lv_has ls 7 [(0, .ref (ad 0)), (1, .int stick), (2, .int day), (3, .int q)] := hl
  refine lv_iconst (v := -1) hx hb dX10_errorOn_0 (by decide) ?_
  refine lv_istore (lv' := [(4, .int (-1)), (0, .ref (ad 0)), (1, .int stick), (2, .int day), (3, .int q)]) hx hb dX10_errorOn_1 hl (by decide) rfl (fun ls hl => ?_)
  refine lv_iconst (v := 0) hx hb dX10_errorOn_3 (by decide) ?_
  refine lv_istore (lv' := [(5, .int 0), (4, .int (-1)), (0, .ref (ad 0)), (1, .int stick), (2, .int day), (3, .int q)]) hx hb dX10_errorOn_4 hl (by decide) rfl (fun ls hl => ?_)
  refine lv_iconst (v := 0) hx hb dX10_errorOn_6 (by decide) ?_
  refine lv_istore (lv' := [(6, .int 0), (5, .int 0), (4, .int (-1)), (0, .ref (ad 0)), (1, .int stick), (2, .int day), (3, .int q)]) hx hb dX10_errorOn_7 hl (by decide) rfl (fun ls hl => ?_)
  refine lp_X10_errorOn C ad I F rw gd gl n stick day q (mEr (F 6) (F 7) (F 8) (F 9) stick day q n 0 (-1) 0) hn hn2 (fun H locs ls h hl => ?_) n 0 (-1) 0 _ _ ls (by omega) rfl h (lv_sub hl [3, 4, 5, 6, 2, 1, 0] rfl)
  refine lv_iload hx hb dX10_errorOn_90 (lv_at hl 0 rfl) ?_
  exact r_iret C h hr hlk (Nat.zero_le _) (Nat.zero_le _) () rfl rfl dX10_errorOn_92

/-- the byte at a shift, as the model reads it -/
def mB (v x : Int32) : Int32 := (v >>> (x &&& 31)) &&& 255
def mBi (v : Int32) : Nat → Int32 → Int32
  | 0, a => a
  | k + 1, a => mBi v k (a + (if mB v (nI (8 * k)) = 0 then 0 else 1))
def mPu (v : Int32) : Nat → (Nat → Int32) → Nat → (Nat → Int32) × Nat
  | 0, f, n => (f, n)
  | k + 1, f, n => if mB v (nI (8 * k)) = 0 then mPu v k f n else mPu v k (upd f n (vp_nar .byte (v >>> (nI (8 * k) &&& 31)).toInt8.toInt32)) (n + 1)

set_option maxHeartbeats 4000000 in
set_option maxRecDepth 100000 in
theorem lp_X10_bytesIn {p : Program} {l : Launch} {e : Env} {R : Room} {s : State} {m : MethodId} {args : Array Value} {below : List Frame} {meth : Method} {c : Code} {cells slots : Nat} {Q : State → Prop} {G : gG} {A : Nat → Prop} (C : gC p m c cX10_bytesIn 3 s args wsX10_bytesIn RX10 G A) (v z : Int32) (kx : ∀ (H : Heap) (locs : List Loc) (ls : Array Slot), gS G A s [] H locs → lv_has ls 3 [(1, .int z)] → W p l e R s m args below meth c H locs cells slots Q (F0 m 33 ls [])) :
    ∀ (k : Nat) (a x : Int32) (H : Heap) (locs : List Loc) (ls : Array Slot), (k ≤ 4) → (x = nI (8 * k) - 8) → (mBi v k a = z) →  gS G A s ([]) H locs → lv_has ls 3 [(0, .int v), (1, .int a), (2, .int x)] → W p l e R s m args below meth c H locs cells slots Q (F0 m 5 ls []) := by
  have hx := C.1.1.1
  have hb := C.1.1.2.1
  intro k
  induction k with
  | zero =>
    intro a x H locs ls hk ex hz h hl
    refine lv_iload_n hx hb dX10_bytesIn_5 rfl (lv_at hl 2 rfl) ?_
    refine lv_if_lt (tgt := 33) hx hb dX10_bytesIn_6 (by decide) (fun c_6 => ?_) (fun c_6 => ?_)
    · subst hz
      exact kx _ _ ls h (lv_sub hl [1] rfl)
    · exact absurd (sh_neg ex) c_6
  | succ k ih =>
    intro a x H locs ls hk ex hz h hl
    obtain ⟨ex, hpos⟩ := sh_pos hk ex
    subst ex
    refine lv_iload_n hx hb dX10_bytesIn_5 rfl (lv_at hl 2 rfl) ?_
    refine lv_if_lt (tgt := 33) hx hb dX10_bytesIn_6 (by decide) (fun c_6 => ?_) (fun c_6 => ?_)
    · exact absurd c_6 hpos
    · refine lv_iload_n hx hb dX10_bytesIn_9 rfl (lv_at hl 1 rfl) ?_
      refine lv_iload_n hx hb dX10_bytesIn_10 rfl (lv_at hl 0 rfl) ?_
      refine lv_iload_n hx hb dX10_bytesIn_11 rfl (lv_at hl 2 rfl) ?_
      refine lv_ishr hx hb dX10_bytesIn_12 ?_
      refine lv_sipush (v := 255) hx hb dX10_bytesIn_13 (by decide) ?_
      refine lv_iand hx hb dX10_bytesIn_16 ?_
      refine lv_cgi (y := (mB v (nI (8 * k)))) (rfl) ?_
      refine lv_if_eq (tgt := 24) hx hb dX10_bytesIn_17 (by decide) (fun c_17 => ?_) (fun c_17 => ?_)
      · refine lv_iconst (v := 0) hx hb dX10_bytesIn_24 (by decide) ?_
        refine lv_iadd hx hb dX10_bytesIn_25 ?_
        refine lv_istore_n (lv' := [(1, .int (a + 0)), (0, .int v), (2, .int (nI (8 * k)))]) hx hb dX10_bytesIn_26 rfl hl (by decide) rfl (fun ls hl => ?_)
        obtain ⟨x_1, ex_1⟩ : ∃ y : Int32, y = (nI (8 * k)) + (-8) := ⟨_, rfl⟩
        refine lv_iinc (v := x_1) (lv' := [(2, .int x_1), (1, .int (a + 0)), (0, .int v)]) hx hb dX10_bytesIn_27 hl (k := 2) rfl (by rw [ex_1]; rfl) (by decide) rfl (fun ls hl => ?_)
        refine lv_goto (tgt := 5) hx hb dX10_bytesIn_30 (by decide) ?_
        exact ih (a + 0) x_1 _ _ ls (by omega) (by rw [ex_1]; exact sh_dn) (by rw [← hz, mBi, if_pos c_17]) h (lv_sub hl [2, 1, 0] rfl)
      · refine lv_iconst (v := 1) hx hb dX10_bytesIn_20 (by decide) ?_
        refine lv_goto (tgt := 25) hx hb dX10_bytesIn_21 (by decide) ?_
        refine lv_iadd hx hb dX10_bytesIn_25 ?_
        refine lv_istore_n (lv' := [(1, .int (a + 1)), (0, .int v), (2, .int (nI (8 * k)))]) hx hb dX10_bytesIn_26 rfl hl (by decide) rfl (fun ls hl => ?_)
        obtain ⟨x_2, ex_2⟩ : ∃ y : Int32, y = (nI (8 * k)) + (-8) := ⟨_, rfl⟩
        refine lv_iinc (v := x_2) (lv' := [(2, .int x_2), (1, .int (a + 1)), (0, .int v)]) hx hb dX10_bytesIn_27 hl (k := 2) rfl (by rw [ex_2]; rfl) (by decide) rfl (fun ls hl => ?_)
        refine lv_goto (tgt := 5) hx hb dX10_bytesIn_30 (by decide) ?_
        exact ih (a + 1) x_2 _ _ ls (by omega) (by rw [ex_2]; exact sh_dn) (by rw [← hz, mBi, if_neg c_17]) h (lv_sub hl [2, 1, 0] rfl)

set_option maxHeartbeats 4000000 in
set_option maxRecDepth 100000 in
theorem m_bytesIn (l : Launch) (G : gG) (v : Int32) : cM l yX10_bytesIn wsX10_bytesIn 0 0 (0) (0) G [.int v] ([]) (qI G (S := Unit) (fun r _ => r = mBi v 4 0) (fun _ => [])) := by
  refine o_M (cc := cX10_bytesIn) (maxL := 3) (ret := (some .int)) (own := RX10) (by decide +kernel) rfl rfl (Nat.le_of_ble_eq_true rfl) ?_
  intro p e s m below meth c A ls H locs hA C h hr hlk hnm hl
  have hx := C.1.1.1
  have hb := C.1.1.2.1
  have hl : lv_has ls 3 [(0, .int v)] := hl
  refine lv_iconst (v := 0) hx hb dX10_bytesIn_0 (by decide) ?_
  refine lv_istore_n (lv' := [(1, .int 0), (0, .int v)]) hx hb dX10_bytesIn_1 rfl hl (by decide) rfl (fun ls hl => ?_)
  refine lv_bipush (v := 24) hx hb dX10_bytesIn_2 (by decide) ?_
  refine lv_istore_n (lv' := [(2, .int 24), (1, .int 0), (0, .int v)]) hx hb dX10_bytesIn_4 rfl hl (by decide) rfl (fun ls hl => ?_)
  refine lp_X10_bytesIn C v (mBi v 4 0) (fun H locs ls h hl => ?_) 4 0 24 _ _ ls (by decide) (by decide) rfl h (lv_sub hl [2, 1, 0] rfl)
  refine lv_iload_n hx hb dX10_bytesIn_33 rfl (lv_at hl 0 rfl) ?_
  exact r_iret C h hr hlk (Nat.zero_le _) (Nat.zero_le _) () (rfl) (rfl) dX10_bytesIn_34

theorem mPu_ge (v : Int32) : ∀ (k : Nat) (f : Nat → Int32) (n : Nat), n ≤ (mPu v k f n).2
  | 0, _, n => Nat.le_refl n
  | k + 1, f, n => by
    unfold mPu
    split
    · exact mPu_ge v k f n
    · exact Nat.le_trans (Nat.le_succ n) (mPu_ge v k _ (n + 1))
set_option maxHeartbeats 4000000 in
set_option maxRecDepth 100000 in
theorem lp_X10_put {p : Program} {l : Launch} {e : Env} {R : Room} {s : State} {m : MethodId} {args : Array Value} {below : List Frame} {meth : Method} {c : Code} {cells slots : Nat} {Q : State → Prop} {G : gG} {A : Nat → Prop} (C : gC p m c cX10_put 3 s args wsX10_put RX10 G A) (ad : Nat → Nat) (I : Nat → Int32) (F : Nat → Nat → Int32) (rw : Nat) (gd gl : Int64) (v : Int32) (f' : Nat → Int32) (n' : Nat) (kx : ∀ (H : Heap) (locs : List Loc) (ls : Array Slot), gS G A s (mW G ad (upd I 23 (nI n')) (va_up F 1 f') rw gd gl) H locs → W p l e R s m args below meth c H locs cells slots Q (F0 m 49 ls [])) :
    ∀ (k : Nat) (n : Nat) (f : Nat → Int32) (x : Int32) (H : Heap) (locs : List Loc) (ls : Array Slot), (k ≤ 4) → (x = nI (8 * k) - 8) → ((mPu v k f n).2 ≤ 120) → (mPu v k f n = (f', n')) →  gS G A s (mW G ad (upd I 23 (nI n)) (va_up F 1 f) rw gd gl) H locs → lv_has ls 3 [(0, .ref (ad 0)), (1, .int v), (2, .int x)] → W p l e R s m args below meth c H locs cells slots Q (F0 m 3 ls []) := by
  have hx := C.1.1.1
  have hb := C.1.1.2.1
  have wd0 : Cond.fieldLink RX10 9 "ScaleHouseModel" "tape" "[B" ∈ wsX10_put := by decide +kernel
  have hinX10 : ∀ w ∈ wsX100, w ∈ wsX10_put := fun _ h => List.mem_cons_of_mem _ (List.mem_append_right _ h)
  have wd1 : Cond.fieldLink RX10 109 "ScaleHouseModel" "length" "I" ∈ wsX10_put := by decide +kernel
  intro k
  induction k with
  | zero =>
    intro n f x H locs ls hk ex hle hz h hl
    refine lv_iload_n hx hb dX10_put_3 rfl (lv_at hl 2 rfl) ?_
    refine lv_if_lt (tgt := 49) hx hb dX10_put_4 (by decide) (fun c_4 => ?_) (fun c_4 => ?_)
    · cases hz
      exact kx _ _ ls h
    · exact absurd (sh_neg ex) c_4
  | succ k ih =>
    intro n f x H locs ls hk ex hle hz h hl
    obtain ⟨ex, hpos⟩ := sh_pos hk ex
    subst ex
    have hge := mPu_ge v (k + 1) f n
    refine lv_iload_n hx hb dX10_put_3 rfl (lv_at hl 2 rfl) ?_
    refine lv_if_lt (tgt := 49) hx hb dX10_put_4 (by decide) (fun c_4 => ?_) (fun c_4 => ?_)
    · exact absurd c_4 hpos
    · refine lv_iload_n hx hb dX10_put_7 rfl (lv_at hl 1 rfl) ?_
      refine lv_iload_n hx hb dX10_put_8 rfl (lv_at hl 2 rfl) ?_
      refine lv_ishr hx hb dX10_put_9 ?_
      refine lv_sipush (v := 255) hx hb dX10_put_10 (by decide) ?_
      refine lv_iand hx hb dX10_put_13 ?_
      refine lv_cgi (y := (mB v (nI (8 * k)))) (rfl) ?_
      refine lv_if_ne (tgt := 20) hx hb dX10_put_14 (by decide) (fun c_14 => ?_) (fun c_14 => ?_)
      · have hge2 : n < 120 := by
          have z1 := mPu_ge v k (upd f n (vp_nar .byte (v >>> (nI (8 * k) &&& 31)).toInt8.toInt32)) (n + 1)
          rw [mPu, if_neg c_14] at hle
          omega
        refine lv_aload_n hx hb dX10_put_20 rfl (lv_at hl 0 rfl) ?_
        refine r_get C h 0 rfl (Cn := RX10) (T := TX10) (N := 50) rfl hinX10 1 (by decide) (index := 9) (ref := "ScaleHouseModel") wd0 rfl (v := .ref (ad 1)) rfl dX10_put_21 ?_
        refine lv_aload_n hx hb dX10_put_24 rfl (lv_at hl 0 rfl) ?_
        refine r_get C h 0 rfl (Cn := RX10) (T := TX10) (N := 50) rfl hinX10 23 (by decide) (index := 109) (ref := "ScaleHouseModel") wd1 rfl (v := .int (nI n)) rfl dX10_put_25 ?_
        refine lv_iload_n hx hb dX10_put_28 rfl (lv_at hl 1 rfl) ?_
        refine lv_iload_n hx hb dX10_put_29 rfl (lv_at hl 2 rfl) ?_
        refine lv_ishr hx hb dX10_put_30 ?_
        refine lv_i2b hx hb dX10_put_31 rfl ?_
        refine r_bast C h 1 rfl (i := (nI n)) (vp_in_nI hge2 (by decide)) dX10_put_32 (fun H locs h => ?_)
        have h : gS G A s (mW G ad (upd I 23 (nI n)) (va_up F 1 (upd f (nI n).toNatClampNeg (vp_nar .byte (v >>> ((nI (8 * k)) &&& 31)).toInt8.toInt32))) rw gd gl) H locs := h
        rw [show (upd f (nI n).toNatClampNeg (vp_nar .byte (v >>> ((nI (8 * k)) &&& 31)).toInt8.toInt32)) = (upd f n (vp_nar .byte (v >>> (nI (8 * k) &&& 31)).toInt8.toInt32)) from by rw [nI_clamp (by omega)]] at h
        have h : gS G A s (mW G ad (upd I 23 (nI n)) (va_up F 1 (upd f n (vp_nar .byte (v >>> (nI (8 * k) &&& 31)).toInt8.toInt32))) rw gd gl) H locs := h
        refine lv_aload_n hx hb dX10_put_33 rfl (lv_at hl 0 rfl) ?_
        refine lv_dup hx hb dX10_put_34 rfl ?_
        refine r_get C h 0 rfl (Cn := RX10) (T := TX10) (N := 50) rfl hinX10 23 (by decide) (index := 109) (ref := "ScaleHouseModel") wd1 rfl (v := .int (nI n)) rfl dX10_put_35 ?_
        refine lv_iconst (v := 1) hx hb dX10_put_38 (by decide) ?_
        refine lv_iadd hx hb dX10_put_39 ?_
        refine r_put C h 0 rfl (Cn := RX10) (T := TX10) (N := 50) rfl hinX10 tyX10 tyX10_ok nmX10 23 (by decide) (index := 109) (ref := "ScaleHouseModel") wd1 rfl rfl (v := .int ((nI n) + 1)) rfl rfl (show 23 < 50 by decide) dX10_put_40 (fun H locs h => ?_)
        have h : gS G A s (mW G ad (upd I 23 ((nI n) + 1)) (va_up F 1 (upd f n (vp_nar .byte (v >>> (nI (8 * k) &&& 31)).toInt8.toInt32))) rw gd gl) H locs := h
        obtain ⟨x_1, ex_1⟩ : ∃ y : Int32, y = (nI (8 * k)) + (-8) := ⟨_, rfl⟩
        refine lv_iinc (v := x_1) (lv' := [(2, .int x_1), (0, .ref (ad 0)), (1, .int v)]) hx hb dX10_put_43 hl (k := 2) rfl (by rw [ex_1]; rfl) (by decide) rfl (fun ls hl => ?_)
        refine lv_goto (tgt := 3) hx hb dX10_put_46 (by decide) ?_
        exact ih (n + 1) (upd f n (vp_nar .byte (v >>> (nI (8 * k) &&& 31)).toInt8.toInt32)) x_1 _ _ ls (by omega) (by rw [ex_1]; exact sh_dn) (by rw [mPu, if_neg c_14] at hle; exact hle) (by rw [← hz, mPu, if_neg c_14]) (by rw [← nI_1]; exact h) (lv_sub hl [1, 2, 0] rfl)
      · refine lv_goto (tgt := 43) hx hb dX10_put_17 (by decide) ?_
        obtain ⟨x_2, ex_2⟩ : ∃ y : Int32, y = (nI (8 * k)) + (-8) := ⟨_, rfl⟩
        refine lv_iinc (v := x_2) (lv' := [(2, .int x_2), (0, .ref (ad 0)), (1, .int v)]) hx hb dX10_put_43 hl (k := 2) rfl (by rw [ex_2]; rfl) (by decide) rfl (fun ls hl => ?_)
        refine lv_goto (tgt := 3) hx hb dX10_put_46 (by decide) ?_
        exact ih n f x_2 _ _ ls (by omega) (by rw [ex_2]; exact sh_dn) (by rw [mPu, if_pos c_14] at hle; exact hle) (by rw [← hz, mPu, if_pos c_14]) h (lv_sub hl [1, 2, 0] rfl)

set_option maxHeartbeats 4000000 in
set_option maxRecDepth 100000 in
theorem m_put (l : Launch) (G : gG) (ad : Nat → Nat) (I : Nat → Int32) (F : Nat → Nat → Int32) (rw : Nat) (gd gl : Int64) (v : Int32) (n : Nat) (f : Nat → Int32) (hle : (mPu v 4 f n).2 ≤ 120) : cM l yX10_put wsX10_put 0 0 (0) (0) G [.ref (ad 0), .int v] (mW G ad (upd I 23 (nI n)) (va_up F 1 f) rw gd gl) (qV G (S := (Nat → Int32) × Nat) (fun u => u = mPu v 4 f n) (fun u => mW G ad (upd I 23 (nI u.2)) (va_up F 1 u.1) rw gd gl)) := by
  refine o_M (cc := cX10_put) (maxL := 3) (ret := none) (own := RX10) (by decide +kernel) rfl rfl (Nat.le_of_ble_eq_true rfl) ?_
  intro p e s m below meth c A ls H locs hA C h hr hlk hnm hl
  have hx := C.1.1.1
  have hb := C.1.1.2.1
  have hl : lv_has ls 3 [(0, .ref (ad 0)), (1, .int v)] := hl
  refine lv_bipush (v := 24) hx hb dX10_put_0 (by decide) ?_
  refine lv_istore_n (lv' := [(2, .int 24), (0, .ref (ad 0)), (1, .int v)]) hx hb dX10_put_2 rfl hl (by decide) rfl (fun ls hl => ?_)
  refine lp_X10_put C ad I F rw gd gl v (mPu v 4 f n).1 (mPu v 4 f n).2 (fun H locs ls h => ?_) 4 n f 24 _ _ ls (by decide) (by decide) hle rfl h (lv_sub hl [1, 2, 0] rfl)
  exact r_vret C h hr hlk (Nat.zero_le _) (Nat.zero_le _) (mPu v 4 f n) rfl rfl dX10_put_49
