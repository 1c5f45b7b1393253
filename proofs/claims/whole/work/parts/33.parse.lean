/-! ===== the reference's parser: the object and the text ===== -/
abbrev pO (G : gG) (ad : Nat → Nat) (I : Nat → Int32) (F : Nat → Nat → Int32) (rw : Nat) (gd : Int64) (gl : Int64) (N : Nat) (t : Nat → Int32) : va_W := [((ad 0), .inr (10, [.int (I 0), .ref (ad 1), .ref (ad 2), .ref (ad 3), .ref (ad 4), .ref (ad 5), .ref (ad 6), .ref (ad 7), .ref (ad 8), .ref (ad 9), .ref (ad 10), .ref (ad 11), .ref (ad 12), .ref (ad 13), .ref (ad 14), .ref (ad 15), .ref (ad 16), .ref (ad 17), .ref (ad 18), .ref (ad 19), .ref (ad 20), .ref (ad 21), .ref (ad 22), .int (I 23), .int (I 24), .int (I 25), .int (I 26), .int (I 27), .int (I 28), .int (I 29), .ref rw, .int (I 31), .int (I 32), .int (I 33), .int (I 34), .int (I 35), .long gd, .long gl, .ref (ad 38), .ref (ad 39), .ref (ad 40), .ref (ad 41), .ref (ad 42), .ref (ad 43), .int (I 44), .int (I 45), .int (I 46), .int (I 47), .int (I 48), .int (I 49)])), (rw, .inl (G.2.2 0, N, .inl t))]
def mBd (v : Int64) : Int64 :=
  (if (if v < 1000000000 then v else 1000000000) < (-1000000000) then (-1000000000) else (if v < 1000000000 then v else 1000000000))
set_option maxHeartbeats 4000000 in
set_option maxRecDepth 100000 in
theorem m_bound (l : Launch) (G : gG) (v : Int64) : cM l yX10_bound wsX10_bound 1 30 (0) (0) G [.long v] ([]) (qL G (S := Unit) (fun r _ => r = (mBd v)) (fun _ => [])) := by
  refine o_M (cc := cX10_bound) (maxL := 2) (ret := (some .long)) (own := RX10) (by decide +kernel) rfl rfl (Nat.le_of_ble_eq_true rfl) ?_
  intro p e s m below meth c A ls H locs hA C h hr hlk hnm hl
  have hx := C.1.1.1
  have hb := C.1.1.2.1
  have hl : lv_has ls 2 [(0, .long v)] := hl
  have wd0 : Cond.constantLong RX10 132 (-1000000000) ∈ wsX10_bound := by decide +kernel
  have wd1 : Cond.constantLong RX10 134 (1000000000) ∈ wsX10_bound := by decide +kernel
  have wd2 : Cond.methodLink RX10 136 Lib.MathLoose.min_long.x ∈ wsX10_bound := by decide +kernel
  have wd3 : Cond.static Lib.MathLoose.min_long.x ∈ wsX10_bound := by decide +kernel
  have wd4 : Cond.initialized "java/lang/Math" ∈ wsX10_bound := by decide +kernel
  have wd5 : Cond.code Lib.MathLoose.min_long.x Lib.MathLoose.min_long.code 4 (some .long) ∈ wsX10_bound := by decide +kernel
  have wd6 : Cond.methodLink RX10 142 Lib.MathLoose.max_long.x ∈ wsX10_bound := by decide +kernel
  have wd7 : Cond.static Lib.MathLoose.max_long.x ∈ wsX10_bound := by decide +kernel
  have wd8 : Cond.code Lib.MathLoose.max_long.x Lib.MathLoose.max_long.code 4 (some .long) ∈ wsX10_bound := by decide +kernel
  refine r_ldc2 C (v := -1000000000) wd0 dX10_bound_0 ?_
  refine r_ldc2 C (v := 1000000000) wd1 dX10_bound_3 ?_
  refine lv_lload_n hx hb dX10_bound_6 rfl (lv_at hl 0 rfl) ?_
  refine va_mmin_long hx hb (C.1.1.2.2.1.trans hl.1.symm) C.1.1.2.2.2.1 (C.1.1.2.2.2.2 _ wd2) (C.1.1.2.2.2.2 _ wd3) (C.1.1.2.2.2.2 _ wd4) (C.1.1.2.2.2.2 _ wd5) (Nat.le_of_ble_eq_true rfl) (Nat.le_of_ble_eq_true rfl) (Nat.le_of_ble_eq_true rfl) (Nat.le_of_ble_eq_true rfl) dX10_bound_7 ?_
  refine va_mmax_long hx hb (C.1.1.2.2.1.trans hl.1.symm) C.1.1.2.2.2.1 (C.1.1.2.2.2.2 _ wd6) (C.1.1.2.2.2.2 _ wd7) (C.1.1.2.2.2.2 _ wd4) (C.1.1.2.2.2.2 _ wd8) (Nat.le_of_ble_eq_true rfl) (Nat.le_of_ble_eq_true rfl) (Nat.le_of_ble_eq_true rfl) (Nat.le_of_ble_eq_true rfl) dX10_bound_10 ?_
  have hs : (mBd v) = (if (if v < 1000000000 then v else 1000000000) < (-1000000000) then (-1000000000) else (if v < 1000000000 then v else 1000000000)) := rfl
  exact r_lret C h hr hlk (Nat.zero_le _) (Nat.zero_le _) () (by rw [hs] <;> rfl) (rfl) dX10_bound_13

theorem mBd_eq (v : Int64) : mBd v = bd v := by
  unfold mBd bd
  simp only [fa_lt64, fa_le64, show (1000000000 : Int64).toInt = 1000000000 from rfl, show (-1000000000 : Int64).toInt = -1000000000 from rfl]
  by_cases h1 : v.toInt < 1000000000
  · simp only [if_pos h1]
    by_cases h2 : v.toInt < -1000000000
    · rw [if_pos h2, if_pos (by omega), if_neg (by omega)]
    · rw [if_neg h2, if_pos (by omega), if_pos (by omega)]
  · simp only [if_neg h1]
    rw [if_neg (by decide)]
    split
    · rw [if_pos (by omega)]
      exact (fa_eq64 _ _).mpr (by rw [show (1000000000 : Int64).toInt = 1000000000 from rfl]; omega)
    · rfl
def lkF (t : Nat → Int32) (a : Nat) : Nat → Nat → Nat
  | 0, k => k
  | r + 1, k => if t (a + k) = 32 then lkF t a r (k + 1) else k
def lk (t : Nat → Int32) (a n k : Nat) : Nat := lkF t a (n - k) k
def lkV (t : Nat → Int32) (a n k : Nat) : Int32 := if k < n then t (a + k) &&& 255 else -1
theorem lkF_ge (t : Nat → Int32) (a : Nat) : ∀ r k, k ≤ lkF t a r k ∧ lkF t a r k ≤ k + r
  | 0, k => ⟨Nat.le_refl _, Nat.le_refl _⟩
  | r + 1, k => by
    rw [lkF]
    have := lkF_ge t a r (k + 1)
    split <;> omega
theorem lk_ge (t : Nat → Int32) (a n k : Nat) (h : k ≤ n) : k ≤ lk t a n k ∧ lk t a n k ≤ n := by
  have := lkF_ge t a (n - k) k
  unfold lk; omega
theorem lkF_st (t : Nat → Int32) (a : Nat) : ∀ r k, lkF t a r k = k + r ∨ ¬ t (a + lkF t a r k) = 32
  | 0, k => Or.inl rfl
  | r + 1, k => by
    rw [lkF]
    split
    · rcases lkF_st t a r (k + 1) with h | h
      · left; omega
      · right; exact h
    · next h => right; exact h
theorem lk_lk (t : Nat → Int32) (a n k : Nat) (h : k ≤ n) : lk t a n (lk t a n k) = lk t a n k := by
  have h1 := lk_ge t a n k h
  rcases lkF_st t a (n - k) k with h2 | h2
  · have h3 : lk t a n k = n := by unfold lk; omega
    rw [h3]; unfold lk; rw [Nat.sub_self]; rfl
  · have h3 : ¬ t (a + lk t a n k) = 32 := h2
    generalize lk t a n k = j at h1 h3 ⊢
    unfold lk
    rcases Nat.eq_zero_or_pos (n - j) with z | z
    · rw [z]; rfl
    · obtain ⟨m9, e⟩ : ∃ m9, n - j = m9 + 1 := ⟨n - j - 1, by omega⟩
      rw [e, lkF, if_neg h3]

set_option maxHeartbeats 4000000 in
set_option maxRecDepth 100000 in
theorem lp_X10_look {p : Program} {l : Launch} {e : Env} {R : Room} {s : State} {m : MethodId} {args : Array Value} {below : List Frame} {meth : Method} {c : Code} {cells slots : Nat} {Q : State → Prop} {G : gG} {A : Nat → Prop} (C : gC p m c cX10_look 1 s args wsX10_look RX10 G A) (ad : Nat → Nat) (I : Nat → Int32) (F : Nat → Nat → Int32) (rw : Nat) (gd gl : Int64) (N : Nat) (t : Nat → Int32) (a n : Nat) (hN : a + n ≤ N) (hN2 : N ≤ 2400) (fl op : Int32) (z : Nat) (kx : ∀ (H : Heap) (locs : List Loc) (ls : Array Slot), gS G A s (pO G ad (upd (upd (upd (upd (upd I 31 (nI a)) 32 (nI n)) 33 (nI z)) 34 fl) 35 op) F rw gd gl N t) H locs → W p l e R s m args below meth c H locs cells slots Q (F0 m 76 ls [.int (lkV t a n z)])) :
    ∀ (r : Nat) (k : Nat) (H : Heap) (locs : List Loc) (ls : Array Slot), (k + r = n) → (lkF t a r k = z) →  gS G A s (pO G ad (upd (upd (upd (upd (upd I 31 (nI a)) 32 (nI n)) 33 (nI k)) 34 fl) 35 op) F rw gd gl N t) H locs → lv_has ls 1 [(0, .ref (ad 0))] → W p l e R s m args below meth c H locs cells slots Q (F0 m 0 ls []) := by
  have hx := C.1.1.1
  have hb := C.1.1.2.1
  have wd0 : Cond.fieldLink RX10 120 "ScaleHouseModel" "at" "I" ∈ wsX10_look := by decide +kernel
  have hinX10 : ∀ w ∈ wsX100, w ∈ wsX10_look := fun _ h => List.mem_cons_of_mem _ (List.mem_append_right _ h)
  have wd1 : Cond.fieldLink RX10 123 "ScaleHouseModel" "rowLong" "I" ∈ wsX10_look := by decide +kernel
  have wd2 : Cond.fieldLink RX10 77 "ScaleHouseModel" "row" "[B" ∈ wsX10_look := by decide +kernel
  have wd3 : Cond.fieldLink RX10 126 "ScaleHouseModel" "rowFrom" "I" ∈ wsX10_look := by decide +kernel
  intro r
  induction r with
  | zero =>
    intro k H locs ls hk hz h hl
    refine lv_aload_n hx hb dX10_look_0 rfl (lv_at hl 0 rfl) ?_
    refine r_get C h 0 rfl (Cn := RX10) (T := TX10) (N := 50) rfl hinX10 33 (by decide) (index := 120) (ref := "ScaleHouseModel") wd0 rfl (v := .int (nI k)) rfl dX10_look_1 ?_
    refine lv_aload_n hx hb dX10_look_4 rfl (lv_at hl 0 rfl) ?_
    refine r_get C h 0 rfl (Cn := RX10) (T := TX10) (N := 50) rfl hinX10 32 (by decide) (index := 123) (ref := "ScaleHouseModel") wd1 rfl (v := .int (nI n)) rfl dX10_look_5 ?_
    refine lv_icmp_ge (tgt := 43) hx hb dX10_look_8 (by decide) (fun c_8 => ?_) (fun c_8 => ?_)
    · refine lv_aload_n hx hb dX10_look_43 rfl (lv_at hl 0 rfl) ?_
      refine r_get C h 0 rfl (Cn := RX10) (T := TX10) (N := 50) rfl hinX10 33 (by decide) (index := 120) (ref := "ScaleHouseModel") wd0 rfl (v := .int (nI k)) rfl dX10_look_44 ?_
      refine lv_aload_n hx hb dX10_look_47 rfl (lv_at hl 0 rfl) ?_
      refine r_get C h 0 rfl (Cn := RX10) (T := TX10) (N := 50) rfl hinX10 32 (by decide) (index := 123) (ref := "ScaleHouseModel") wd1 rfl (v := .int (nI n)) rfl dX10_look_48 ?_
      refine lv_icmp_ge (tgt := 75) hx hb dX10_look_51 (by decide) (fun c_51 => ?_) (fun c_51 => ?_)
      · refine lv_iconst (v := -1) hx hb dX10_look_75 (by decide) ?_
        rw [lkF] at hz
        subst hz
        refine lv_cgi (y := lkV t a n k) (by rw [lkV, if_neg (by omega)]) ?_
        exact kx _ _ ls h
      · exact absurd (by rw [show k = n by omega]; exact Int32.le_refl _) c_51
    · exact absurd (by rw [show k = n by omega]; exact Int32.le_refl _) c_8
  | succ r ih =>
    intro k H locs ls hk hz h hl
    refine lv_aload_n hx hb dX10_look_0 rfl (lv_at hl 0 rfl) ?_
    refine r_get C h 0 rfl (Cn := RX10) (T := TX10) (N := 50) rfl hinX10 33 (by decide) (index := 120) (ref := "ScaleHouseModel") wd0 rfl (v := .int (nI k)) rfl dX10_look_1 ?_
    refine lv_aload_n hx hb dX10_look_4 rfl (lv_at hl 0 rfl) ?_
    refine r_get C h 0 rfl (Cn := RX10) (T := TX10) (N := 50) rfl hinX10 32 (by decide) (index := 123) (ref := "ScaleHouseModel") wd1 rfl (v := .int (nI n)) rfl dX10_look_5 ?_
    refine lv_icmp_ge (tgt := 43) hx hb dX10_look_8 (by decide) (fun c_8 => ?_) (fun c_8 => ?_)
    · exact absurd c_8 (nI_ge (by omega) (by omega))
    · refine lv_aload_n hx hb dX10_look_11 rfl (lv_at hl 0 rfl) ?_
      refine r_get C h 0 rfl (Cn := RX10) (T := TX10) (N := 50) rfl hinX10 30 (by decide) (index := 77) (ref := "ScaleHouseModel") wd2 rfl (v := .ref rw) rfl dX10_look_12 ?_
      refine lv_aload_n hx hb dX10_look_15 rfl (lv_at hl 0 rfl) ?_
      refine r_get C h 0 rfl (Cn := RX10) (T := TX10) (N := 50) rfl hinX10 31 (by decide) (index := 126) (ref := "ScaleHouseModel") wd3 rfl (v := .int (nI a)) rfl dX10_look_16 ?_
      refine lv_aload_n hx hb dX10_look_19 rfl (lv_at hl 0 rfl) ?_
      refine r_get C h 0 rfl (Cn := RX10) (T := TX10) (N := 50) rfl hinX10 33 (by decide) (index := 120) (ref := "ScaleHouseModel") wd0 rfl (v := .int (nI k)) rfl dX10_look_20 ?_
      refine lv_iadd hx hb dX10_look_23 ?_
      refine lv_cgi (y := (nI (a + k))) (by rw [nI_add]) ?_
      refine r_bald C h 1 rfl (i := (nI (a + k))) (vp_in_nI (by omega) (by omega)) dX10_look_24 ?_
      refine lv_cgi (y := (t (a + k))) (nn_at t (by omega)) ?_
      refine lv_bipush (v := 32) hx hb dX10_look_25 (by decide) ?_
      refine lv_icmp_ne (tgt := 43) hx hb dX10_look_27 (by decide) (fun c_27 => ?_) (fun c_27 => ?_)
      · refine lv_aload_n hx hb dX10_look_43 rfl (lv_at hl 0 rfl) ?_
        refine r_get C h 0 rfl (Cn := RX10) (T := TX10) (N := 50) rfl hinX10 33 (by decide) (index := 120) (ref := "ScaleHouseModel") wd0 rfl (v := .int (nI k)) rfl dX10_look_44 ?_
        refine lv_aload_n hx hb dX10_look_47 rfl (lv_at hl 0 rfl) ?_
        refine r_get C h 0 rfl (Cn := RX10) (T := TX10) (N := 50) rfl hinX10 32 (by decide) (index := 123) (ref := "ScaleHouseModel") wd1 rfl (v := .int (nI n)) rfl dX10_look_48 ?_
        refine lv_icmp_ge (tgt := 75) hx hb dX10_look_51 (by decide) (fun c_51 => ?_) (fun c_51 => ?_)
        · exact absurd c_51 (nI_ge (by omega) (by omega))
        · refine lv_aload_n hx hb dX10_look_54 rfl (lv_at hl 0 rfl) ?_
          refine r_get C h 0 rfl (Cn := RX10) (T := TX10) (N := 50) rfl hinX10 30 (by decide) (index := 77) (ref := "ScaleHouseModel") wd2 rfl (v := .ref rw) rfl dX10_look_55 ?_
          refine lv_aload_n hx hb dX10_look_58 rfl (lv_at hl 0 rfl) ?_
          refine r_get C h 0 rfl (Cn := RX10) (T := TX10) (N := 50) rfl hinX10 31 (by decide) (index := 126) (ref := "ScaleHouseModel") wd3 rfl (v := .int (nI a)) rfl dX10_look_59 ?_
          refine lv_aload_n hx hb dX10_look_62 rfl (lv_at hl 0 rfl) ?_
          refine r_get C h 0 rfl (Cn := RX10) (T := TX10) (N := 50) rfl hinX10 33 (by decide) (index := 120) (ref := "ScaleHouseModel") wd0 rfl (v := .int (nI k)) rfl dX10_look_63 ?_
          refine lv_iadd hx hb dX10_look_66 ?_
          refine lv_cgi (y := (nI (a + k))) (by rw [nI_add]) ?_
          refine r_bald C h 1 rfl (i := (nI (a + k))) (vp_in_nI (by omega) (by omega)) dX10_look_67 ?_
          refine lv_cgi (y := (t (a + k))) (nn_at t (by omega)) ?_
          refine lv_sipush (v := 255) hx hb dX10_look_68 (by decide) ?_
          refine lv_iand hx hb dX10_look_71 ?_
          refine lv_goto (tgt := 76) hx hb dX10_look_72 (by decide) ?_
          rw [lkF, if_neg c_27] at hz
          subst hz
          refine lv_cgi (y := lkV t a n k) (by rw [lkV, if_pos (by omega)]) ?_
          exact kx _ _ ls h
      · refine lv_aload_n hx hb dX10_look_30 rfl (lv_at hl 0 rfl) ?_
        refine lv_dup hx hb dX10_look_31 rfl ?_
        refine r_get C h 0 rfl (Cn := RX10) (T := TX10) (N := 50) rfl hinX10 33 (by decide) (index := 120) (ref := "ScaleHouseModel") wd0 rfl (v := .int (nI k)) rfl dX10_look_32 ?_
        refine lv_iconst (v := 1) hx hb dX10_look_35 (by decide) ?_
        refine lv_iadd hx hb dX10_look_36 ?_
        refine r_put C h 0 rfl (Cn := RX10) (T := TX10) (N := 50) rfl hinX10 tyX10 tyX10_ok nmX10 33 (by decide) (index := 120) (ref := "ScaleHouseModel") wd0 rfl rfl (v := .int ((nI k) + 1)) rfl rfl (show 33 < 50 by decide) dX10_look_37 (fun H locs h => ?_)
        have h : gS G A s (pO G ad (upd (upd (upd (upd (upd I 31 (nI a)) 32 (nI n)) 33 ((nI k) + 1)) 34 fl) 35 op) F rw gd gl N t) H locs := h
        rw [nI_1] at h
        have h : gS G A s (pO G ad (upd (upd (upd (upd (upd I 31 (nI a)) 32 (nI n)) 33 (nI (k + 1))) 34 fl) 35 op) F rw gd gl N t) H locs := h
        refine lv_goto (tgt := 0) hx hb dX10_look_40 (by decide) ?_
        exact ih (k + 1) _ _ ls (by omega) (by rw [← hz, lkF, if_pos c_27]) h (lv_sub hl [0] rfl)

set_option maxHeartbeats 4000000 in
set_option maxRecDepth 100000 in
theorem m_look (l : Launch) (G : gG) (ad : Nat → Nat) (I : Nat → Int32) (F : Nat → Nat → Int32) (rw : Nat) (gd gl : Int64) (N : Nat) (t : Nat → Int32) (a n : Nat) (hN : a + n ≤ N) (hN2 : N ≤ 2400) (k : Nat) (fl op : Int32) (hk : k ≤ n) : cM l yX10_look wsX10_look 0 0 (0) (0) G [.ref (ad 0)] (pO G ad (upd (upd (upd (upd (upd I 31 (nI a)) 32 (nI n)) 33 (nI k)) 34 fl) 35 op) F rw gd gl N t) (qI G (S := Unit) (fun r _ => r = lkV t a n (lk t a n k)) (fun _ => pO G ad (upd (upd (upd (upd (upd I 31 (nI a)) 32 (nI n)) 33 (nI (lk t a n k))) 34 fl) 35 op) F rw gd gl N t)) := by
  refine o_M (cc := cX10_look) (maxL := 1) (ret := (some .int)) (own := RX10) (by decide +kernel) rfl rfl (Nat.le_of_ble_eq_true rfl) ?_
  intro p e s m below meth c A ls H locs hA C h hr hlk hnm hl
  have hx := C.1.1.1
  have hb := C.1.1.2.1
  have hl : lv_has ls 1 [(0, .ref (ad 0))] := hl
  refine lp_X10_look C ad I F rw gd gl N t a n hN hN2 fl op (lk t a n k) (fun H locs ls h => ?_) (n - k) k _ _ ls (by omega) rfl h hl
  exact r_iret C h hr hlk (Nat.zero_le _) (Nat.zero_le _) () rfl rfl dX10_look_76

def mDg (t : Nat → Int32) (a n k : Nat) : Int32 :=
  if (nI n) ≤ (nI k) then 0
  else if (t (a + k)) < 48 then 0
    else if 57 < (t (a + k)) then 0
      else 1
set_option maxHeartbeats 4000000 in
set_option maxRecDepth 100000 in
theorem m_isDigit (l : Launch) (G : gG) (ad : Nat → Nat) (I : Nat → Int32) (F : Nat → Nat → Int32) (rw : Nat) (gd gl : Int64) (N : Nat) (t : Nat → Int32) (a n : Nat) (hN : a + n ≤ N) (hN2 : N ≤ 2400) (k : Nat) (fl op : Int32) (hk : k ≤ n) : cM l yX10_isDigit wsX10_isDigit 0 0 (0) (0) G [.ref (ad 0)] (pO G ad (upd (upd (upd (upd (upd I 31 (nI a)) 32 (nI n)) 33 (nI k)) 34 fl) 35 op) F rw gd gl N t) (qI G (S := Unit) (fun r _ => r = (mDg t a n k)) (fun _ => pO G ad (upd (upd (upd (upd (upd I 31 (nI a)) 32 (nI n)) 33 (nI k)) 34 fl) 35 op) F rw gd gl N t)) := by
  refine o_M (cc := cX10_isDigit) (maxL := 1) (ret := (some .boolean)) (own := RX10) (by decide +kernel) rfl rfl (Nat.le_of_ble_eq_true rfl) ?_
  intro p e s m below meth c A ls H locs hA C h hr hlk hnm hl
  have hx := C.1.1.1
  have hb := C.1.1.2.1
  have hl : lv_has ls 1 [(0, .ref (ad 0))] := hl
  have wd0 : Cond.fieldLink RX10 120 "ScaleHouseModel" "at" "I" ∈ wsX10_isDigit := by decide +kernel
  have hinX10 : ∀ w ∈ wsX100, w ∈ wsX10_isDigit := fun _ h => List.mem_cons_of_mem _ (List.mem_append_right _ h)
  have wd1 : Cond.fieldLink RX10 123 "ScaleHouseModel" "rowLong" "I" ∈ wsX10_isDigit := by decide +kernel
  have wd2 : Cond.fieldLink RX10 77 "ScaleHouseModel" "row" "[B" ∈ wsX10_isDigit := by decide +kernel
  have wd3 : Cond.fieldLink RX10 126 "ScaleHouseModel" "rowFrom" "I" ∈ wsX10_isDigit := by decide +kernel
  refine lv_aload_n hx hb dX10_isDigit_0 rfl (lv_at hl 0 rfl) ?_
  refine r_get C h 0 rfl (Cn := RX10) (T := TX10) (N := 50) rfl hinX10 33 (by decide) (index := 120) (ref := "ScaleHouseModel") wd0 rfl (v := .int (nI k)) rfl dX10_isDigit_1 ?_
  refine lv_aload_n hx hb dX10_isDigit_4 rfl (lv_at hl 0 rfl) ?_
  refine r_get C h 0 rfl (Cn := RX10) (T := TX10) (N := 50) rfl hinX10 32 (by decide) (index := 123) (ref := "ScaleHouseModel") wd1 rfl (v := .int (nI n)) rfl dX10_isDigit_5 ?_
  refine lv_icmp_ge (tgt := 53) hx hb dX10_isDigit_8 (by decide) (fun c_8 => ?_) (fun c_8 => ?_)
  · refine lv_iconst (v := 0) hx hb dX10_isDigit_53 (by decide) ?_
    have hs : (mDg t a n k) = 0 := by simp only [mDg, if_pos c_8]
    exact r_zret C h hr hlk (Nat.zero_le _) (Nat.zero_le _) (Or.inl rfl) () (by rw [hs] <;> rfl) (rfl) dX10_isDigit_54
  · have hkn : k < n := nn_lt c_8 (by omega)
    refine lv_aload_n hx hb dX10_isDigit_11 rfl (lv_at hl 0 rfl) ?_
    refine r_get C h 0 rfl (Cn := RX10) (T := TX10) (N := 50) rfl hinX10 30 (by decide) (index := 77) (ref := "ScaleHouseModel") wd2 rfl (v := .ref rw) rfl dX10_isDigit_12 ?_
    refine lv_aload_n hx hb dX10_isDigit_15 rfl (lv_at hl 0 rfl) ?_
    refine r_get C h 0 rfl (Cn := RX10) (T := TX10) (N := 50) rfl hinX10 31 (by decide) (index := 126) (ref := "ScaleHouseModel") wd3 rfl (v := .int (nI a)) rfl dX10_isDigit_16 ?_
    refine lv_aload_n hx hb dX10_isDigit_19 rfl (lv_at hl 0 rfl) ?_
    refine r_get C h 0 rfl (Cn := RX10) (T := TX10) (N := 50) rfl hinX10 33 (by decide) (index := 120) (ref := "ScaleHouseModel") wd0 rfl (v := .int (nI k)) rfl dX10_isDigit_20 ?_
    refine lv_iadd hx hb dX10_isDigit_23 ?_
    refine lv_cgi (y := (nI (a + k))) (by rw [nI_add]) ?_
    refine r_bald C h 1 rfl (i := (nI (a + k))) (vp_in_nI (by omega) (by omega)) dX10_isDigit_24 ?_
    refine lv_cgi (y := (t (a + k))) (nn_at t (by omega)) ?_
    refine lv_bipush (v := 48) hx hb dX10_isDigit_25 (by decide) ?_
    refine lv_icmp_lt (tgt := 53) hx hb dX10_isDigit_27 (by decide) (fun c_27 => ?_) (fun c_27 => ?_)
    · refine lv_iconst (v := 0) hx hb dX10_isDigit_53 (by decide) ?_
      have hs : (mDg t a n k) = 0 := by simp only [mDg, if_neg c_8, if_pos c_27]
      exact r_zret C h hr hlk (Nat.zero_le _) (Nat.zero_le _) (Or.inl rfl) () (by rw [hs] <;> rfl) (rfl) dX10_isDigit_54
    · refine lv_aload_n hx hb dX10_isDigit_30 rfl (lv_at hl 0 rfl) ?_
      refine r_get C h 0 rfl (Cn := RX10) (T := TX10) (N := 50) rfl hinX10 30 (by decide) (index := 77) (ref := "ScaleHouseModel") wd2 rfl (v := .ref rw) rfl dX10_isDigit_31 ?_
      refine lv_aload_n hx hb dX10_isDigit_34 rfl (lv_at hl 0 rfl) ?_
      refine r_get C h 0 rfl (Cn := RX10) (T := TX10) (N := 50) rfl hinX10 31 (by decide) (index := 126) (ref := "ScaleHouseModel") wd3 rfl (v := .int (nI a)) rfl dX10_isDigit_35 ?_
      refine lv_aload_n hx hb dX10_isDigit_38 rfl (lv_at hl 0 rfl) ?_
      refine r_get C h 0 rfl (Cn := RX10) (T := TX10) (N := 50) rfl hinX10 33 (by decide) (index := 120) (ref := "ScaleHouseModel") wd0 rfl (v := .int (nI k)) rfl dX10_isDigit_39 ?_
      refine lv_iadd hx hb dX10_isDigit_42 ?_
      refine lv_cgi (y := (nI (a + k))) (by rw [nI_add]) ?_
      refine r_bald C h 1 rfl (i := (nI (a + k))) (vp_in_nI (by omega) (by omega)) dX10_isDigit_43 ?_
      refine lv_cgi (y := (t (a + k))) (nn_at t (by omega)) ?_
      refine lv_bipush (v := 57) hx hb dX10_isDigit_44 (by decide) ?_
      refine lv_icmp_gt (tgt := 53) hx hb dX10_isDigit_46 (by decide) (fun c_46 => ?_) (fun c_46 => ?_)
      · refine lv_iconst (v := 0) hx hb dX10_isDigit_53 (by decide) ?_
        have hs : (mDg t a n k) = 0 := by simp only [mDg, if_neg c_8, if_neg c_27, if_pos c_46]
        exact r_zret C h hr hlk (Nat.zero_le _) (Nat.zero_le _) (Or.inl rfl) () (by rw [hs] <;> rfl) (rfl) dX10_isDigit_54
      · refine lv_iconst (v := 1) hx hb dX10_isDigit_49 (by decide) ?_
        refine lv_goto (tgt := 54) hx hb dX10_isDigit_50 (by decide) ?_
        have hs : (mDg t a n k) = 1 := by simp only [mDg, if_neg c_8, if_neg c_27, if_neg c_46]
        exact r_zret C h hr hlk (Nat.zero_le _) (Nat.zero_le _) (Or.inr rfl) () (by rw [hs] <;> rfl) (rfl) dX10_isDigit_54

set_option maxHeartbeats 4000000 in
set_option maxRecDepth 100000 in
theorem m_wrong (l : Launch) (G : gG) (ad : Nat → Nat) (I : Nat → Int32) (F : Nat → Nat → Int32) (rw : Nat) (gd gl : Int64) (N : Nat) (t : Nat → Int32) (a n : Nat) (hN : a + n ≤ N) (hN2 : N ≤ 2400) (x op : Int32) : cM l yX10_wrong wsX10_wrong 0 0 (0) (0) G [.ref (ad 0)] (pO G ad (upd (upd (upd (upd (upd I 31 (nI a)) 32 (nI n)) 33 x) 34 (-1)) 35 op) F rw gd gl N t) (qL G (S := Unit) (fun r _ => r = 0) (fun _ => pO G ad (upd (upd (upd (upd (upd I 31 (nI a)) 32 (nI n)) 33 x) 34 x) 35 op) F rw gd gl N t)) := by
  refine o_M (cc := cX10_wrong) (maxL := 1) (ret := (some .long)) (own := RX10) (by decide +kernel) rfl rfl (Nat.le_of_ble_eq_true rfl) ?_
  intro p e s m below meth c A ls H locs hA C h hr hlk hnm hl
  have hx := C.1.1.1
  have hb := C.1.1.2.1
  have hl : lv_has ls 1 [(0, .ref (ad 0))] := hl
  have wd0 : Cond.fieldLink RX10 129 "ScaleHouseModel" "fault" "I" ∈ wsX10_wrong := by decide +kernel
  have hinX10 : ∀ w ∈ wsX100, w ∈ wsX10_wrong := fun _ h => List.mem_cons_of_mem _ (List.mem_append_right _ h)
  have wd1 : Cond.fieldLink RX10 120 "ScaleHouseModel" "at" "I" ∈ wsX10_wrong := by decide +kernel
  refine lv_aload_n hx hb dX10_wrong_0 rfl (lv_at hl 0 rfl) ?_
  refine r_get C h 0 rfl (Cn := RX10) (T := TX10) (N := 50) rfl hinX10 34 (by decide) (index := 129) (ref := "ScaleHouseModel") wd0 rfl (v := .int (-1)) rfl dX10_wrong_1 ?_
  refine lv_iconst (v := -1) hx hb dX10_wrong_4 (by decide) ?_
  refine lv_icmp_ne (tgt := 16) hx hb dX10_wrong_5 (by decide) (fun c_5 => ?_) (fun c_5 => ?_)
  · exact absurd c_5 (by decide)
  · refine lv_aload_n hx hb dX10_wrong_8 rfl (lv_at hl 0 rfl) ?_
    refine lv_aload_n hx hb dX10_wrong_9 rfl (lv_at hl 0 rfl) ?_
    refine r_get C h 0 rfl (Cn := RX10) (T := TX10) (N := 50) rfl hinX10 33 (by decide) (index := 120) (ref := "ScaleHouseModel") wd1 rfl (v := .int x) rfl dX10_wrong_10 ?_
    refine r_put C h 0 rfl (Cn := RX10) (T := TX10) (N := 50) rfl hinX10 tyX10 tyX10_ok nmX10 34 (by decide) (index := 129) (ref := "ScaleHouseModel") wd0 rfl rfl (v := .int x) rfl rfl (show 34 < 50 by decide) dX10_wrong_13 (fun H locs h => ?_)
    have h : gS G A s (pO G ad (upd (upd (upd (upd (upd I 31 (nI a)) 32 (nI n)) 33 x) 34 x) 35 op) F rw gd gl N t) H locs := h
    refine lv_lconst (v := 0) hx hb dX10_wrong_16 (by decide) ?_
    exact r_lret C h hr hlk (Nat.zero_le _) (Nat.zero_le _) () (rfl) (rfl) dX10_wrong_17
