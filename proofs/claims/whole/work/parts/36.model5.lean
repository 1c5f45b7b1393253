/-! ===== the reference: scales, sums, days ===== -/
/-- the errors told are small -/
def mEb (F : Nat → Nat → Int32) (ne : Nat) : Prop := ∀ i, i < ne → -200 ≤ (F 7 i).toInt ∧ (F 7 i).toInt ≤ 200
def mGd (I : Nat → Int32) (F : Nat → Nat → Int32) (nl ne : Nat) (L : Nat → Nat) : Prop := I 25 = nI nl ∧ mLs F nl L ∧ nl ≤ 20 ∧ I 26 = nI ne ∧ ne ≤ 60 ∧ mEb F ne
theorem mGd_jk {I J : Nat → Int32} {F : Nat → Nat → Int32} {nl ne : Nat} {L : Nat → Nat} (h : mGd I F nl ne L) (hj : jk I J) : mGd J F nl ne L :=
  ⟨(hj 25 (by decide)).trans h.1, h.2.1, h.2.2.1, (hj 26 (by decide)).trans h.2.2.2.1, h.2.2.2.2⟩
theorem mFo_k (fr td : Nat → Int32) (day q : Int32) (n : Nat) : ∀ (r i : Nat) (b : Int32), i + r = n → (b = -1 ∨ ∃ j, j < i ∧ b = nI j) → (mFo fr td day q r i b = -1 ∨ ∃ j, j < n ∧ mFo fr td day q r i b = nI j)
  | 0, i, b, hi, hb => by
    rw [mFo]
    rcases hb with h | ⟨j, hj, e⟩
    · exact Or.inl h
    · exact Or.inr ⟨j, by omega, e⟩
  | r + 1, i, b, hi, hb => by
    rw [mFo]
    refine mFo_k fr td day q n r (i + 1) _ (by omega) ?_
    have hb2 : b = -1 ∨ ∃ j, j < i + 1 ∧ b = nI j := hb.elim Or.inl (fun ⟨j, hj, e⟩ => Or.inr ⟨j, by omega, e⟩)
    split
    · exact hb2
    split
    · exact hb2
    split
    · exact Or.inr ⟨i, by omega, rfl⟩
    split
    · exact hb2
    · exact Or.inr ⟨i, by omega, rfl⟩
theorem mEr_b (F : Nat → Nat → Int32) (stick day q : Int32) (ne : Nat) (hep : mEb F ne) : ∀ (r i : Nat) (u v : Int32), i + r = ne → (-200 ≤ v.toInt ∧ v.toInt ≤ 200) → -200 ≤ (mEr (F 6) (F 7) (F 8) (F 9) stick day q r i u v).toInt ∧ (mEr (F 6) (F 7) (F 8) (F 9) stick day q r i u v).toInt ≤ 200
  | 0, i, u, v, hi, hv => hv
  | r + 1, i, u, v, hi, hv => by
    have h1 := fun u => mEr_b F stick day q ne hep r (i + 1) u v (by omega) hv
    have h2 := mEr_b F stick day q ne hep r (i + 1) (F 8 i) (F 7 i) (by omega) (hep i (by omega))
    rw [mEr]
    split
    · split
      · exact h1 _
      split
      · exact h1 _
      split
      · exact h2
      · exact h1 _
    · exact h1 _
theorem th_ne {x : Int32} (h : -200 ≤ x.toInt ∧ x.toInt ≤ 200) : ¬ (1000 + x : Int32) = 0 := by
  intro z
  have := congrArg Int32.toInt z
  rw [Int32.toInt_add, show (1000 : Int32).toInt = 1000 from rfl, fb_bmod (by omega) (by omega), show (0 : Int32).toInt = 0 from rfl] at this
  omega

def mSc (F : Nat → Nat → Int32) (nl ne : Nat) (L : Nat → Nat) (lg : Nat) (q : Int32) : Int32 :=
  if F 14 lg ≤ q then (if mFo (F 4) (F 5) (F 14 lg) q nl 0 (-1) = -1 then -1 else (((if (if (mLv F L (mFo (F 4) (F 5) (F 14 lg) q nl 0 (-1)).toNatClampNeg (if 0 < ((((F 12 lg) * 1000) / (1000 + (mEr (F 6) (F 7) (F 8) (F 9) (F 11 lg) (F 14 lg) q ne 0 (-1) 0))) - (F 15 lg)) then ((((F 12 lg) * 1000) / (1000 + (mEr (F 6) (F 7) (F 8) (F 9) (F 11 lg) (F 14 lg) q ne 0 (-1) 0))) - (F 15 lg)) else 0) (F 13 lg)) < 1000000 then (mLv F L (mFo (F 4) (F 5) (F 14 lg) q nl 0 (-1)).toNatClampNeg (if 0 < ((((F 12 lg) * 1000) / (1000 + (mEr (F 6) (F 7) (F 8) (F 9) (F 11 lg) (F 14 lg) q ne 0 (-1) 0))) - (F 15 lg)) then ((((F 12 lg) * 1000) / (1000 + (mEr (F 6) (F 7) (F 8) (F 9) (F 11 lg) (F 14 lg) q ne 0 (-1) 0))) - (F 15 lg)) else 0) (F 13 lg)) else 1000000) < 0 then 0 else (if (mLv F L (mFo (F 4) (F 5) (F 14 lg) q nl 0 (-1)).toNatClampNeg (if 0 < ((((F 12 lg) * 1000) / (1000 + (mEr (F 6) (F 7) (F 8) (F 9) (F 11 lg) (F 14 lg) q ne 0 (-1) 0))) - (F 15 lg)) then ((((F 12 lg) * 1000) / (1000 + (mEr (F 6) (F 7) (F 8) (F 9) (F 11 lg) (F 14 lg) q ne 0 (-1) 0))) - (F 15 lg)) else 0) (F 13 lg)) < 1000000 then (mLv F L (mFo (F 4) (F 5) (F 14 lg) q nl 0 (-1)).toNatClampNeg (if 0 < ((((F 12 lg) * 1000) / (1000 + (mEr (F 6) (F 7) (F 8) (F 9) (F 11 lg) (F 14 lg) q ne 0 (-1) 0))) - (F 15 lg)) then ((((F 12 lg) * 1000) / (1000 + (mEr (F 6) (F 7) (F 8) (F 9) (F 11 lg) (F 14 lg) q ne 0 (-1) 0))) - (F 15 lg)) else 0) (F 13 lg)) else 1000000)) * (100 - (F 16 lg)).toInt64) / 100).toInt32) else -1

set_option maxHeartbeats 4000000 in
set_option maxRecDepth 100000 in
theorem m_scaleOf (l : Launch) (G : gG) (ad : Nat → Nat) (I : Nat → Int32) (F : Nat → Nat → Int32) (rw : Nat) (gd gl : Int64) (nl ne : Nat) (L : Nat → Nat) (hgd : mGd I F nl ne L) (lg : Nat) (hlg : lg < 100) (q : Int32) : cM l yX10_scaleOf wsX10_scaleOf 89 1000 (0) (0) G [.ref (ad 0), .int (nI lg), .int q] (mW G ad I F rw gd gl) (qI G (S := (Nat → Int32) × Nat × Int64 × Int64) (fun r u => r = mSc F nl ne L lg q ∧ jk I u.1) (fun u => mW G ad u.1 F u.2.1 u.2.2.1 u.2.2.2)) := by
  refine o_M (cc := cX10_scaleOf) (maxL := 7) (ret := (some .int)) (own := RX10) (by decide +kernel) rfl rfl (Nat.le_of_ble_eq_true rfl) ?_
  intro p e s m below meth c A ls H locs hA C h hr hlk hnm hl
  have hx := C.1.1.1
  have hb := C.1.1.2.1
  have hl : lv_has ls 7 [(0, .ref (ad 0)), (1, .int (nI lg)), (2, .int q)] := hl
  have wd0 : Cond.fieldLink RX10 50 "ScaleHouseModel" "logDay" "[I" ∈ wsX10_scaleOf := by decide +kernel
  have hinX10 : ∀ w ∈ wsX100, w ∈ wsX10_scaleOf := fun _ h => List.mem_cons_of_mem _ (List.mem_append_right _ h)
  have wd1 : Cond.fieldLink RX10 44 "ScaleHouseModel" "logRead" "[I" ∈ wsX10_scaleOf := by decide +kernel
  have wd2 : Cond.fieldLink RX10 41 "ScaleHouseModel" "logStick" "[I" ∈ wsX10_scaleOf := by decide +kernel
  have wd3 : Cond.fieldLink RX10 53 "ScaleHouseModel" "rot" "[I" ∈ wsX10_scaleOf := by decide +kernel
  have wd4 : Cond.methodLink RX10 229 Lib.Math.max.name ∈ wsX10_scaleOf := by decide +kernel
  have wd5 : Cond.static Lib.Math.max.name ∈ wsX10_scaleOf := by decide +kernel
  have wd6 : Cond.initialized "java/lang/Math" ∈ wsX10_scaleOf := by decide +kernel
  have wd7 : Cond.code Lib.Math.max.name Lib.Math.max.code 2 (some .int) ∈ wsX10_scaleOf := by decide +kernel
  have wd8 : Cond.constantLong RX10 231 (1000000) ∈ wsX10_scaleOf := by decide +kernel
  have wd9 : Cond.fieldLink RX10 47 "ScaleHouseModel" "logLong" "[I" ∈ wsX10_scaleOf := by decide +kernel
  have wd10 : Cond.methodLink RX10 136 Lib.MathLoose.min_long.x ∈ wsX10_scaleOf := by decide +kernel
  have wd11 : Cond.static Lib.MathLoose.min_long.x ∈ wsX10_scaleOf := by decide +kernel
  have wd12 : Cond.code Lib.MathLoose.min_long.x Lib.MathLoose.min_long.code 4 (some .long) ∈ wsX10_scaleOf := by decide +kernel
  have wd13 : Cond.methodLink RX10 142 Lib.MathLoose.max_long.x ∈ wsX10_scaleOf := by decide +kernel
  have wd14 : Cond.static Lib.MathLoose.max_long.x ∈ wsX10_scaleOf := by decide +kernel
  have wd15 : Cond.code Lib.MathLoose.max_long.x Lib.MathLoose.max_long.code 4 (some .long) ∈ wsX10_scaleOf := by decide +kernel
  have wd16 : Cond.fieldLink RX10 56 "ScaleHouseModel" "bend" "[I" ∈ wsX10_scaleOf := by decide +kernel
  have wd17 : Cond.constantLong RX10 233 (100) ∈ wsX10_scaleOf := by decide +kernel
  obtain ⟨hn, hL, hnl, he, he2, hep⟩ := hgd
  refine lv_aload_n hx hb dX10_scaleOf_0 rfl (lv_at hl 0 rfl) ?_
  refine r_get C h 0 rfl (Cn := RX10) (T := TX10) (N := 50) rfl hinX10 14 (by decide) (index := 50) (ref := "ScaleHouseModel") wd0 rfl (v := .ref (ad 14)) rfl dX10_scaleOf_1 ?_
  refine lv_iload_n hx hb dX10_scaleOf_4 rfl (lv_at hl 1 rfl) ?_
  refine r_iald C h 14 rfl (i := (nI lg)) (vp_in_nI (by omega) (by decide)) dX10_scaleOf_5 ?_
  refine lv_cgi (y := (F 14 lg)) (nn_at (F 14) (by omega)) ?_
  refine lv_iload_n hx hb dX10_scaleOf_6 rfl (lv_at hl 2 rfl) ?_
  refine lv_icmp_le (tgt := 14) hx hb dX10_scaleOf_7 (by decide) (fun c_7 => ?_) (fun c_7 => ?_)
  · refine lv_aload_n hx hb dX10_scaleOf_14 rfl (lv_at hl 0 rfl) ?_
    refine lv_aload_n hx hb dX10_scaleOf_15 rfl (lv_at hl 0 rfl) ?_
    refine r_get C h 0 rfl (Cn := RX10) (T := TX10) (N := 50) rfl hinX10 14 (by decide) (index := 50) (ref := "ScaleHouseModel") wd0 rfl (v := .ref (ad 14)) rfl dX10_scaleOf_16 ?_
    refine lv_iload_n hx hb dX10_scaleOf_19 rfl (lv_at hl 1 rfl) ?_
    refine r_iald C h 14 rfl (i := (nI lg)) (vp_in_nI (by omega) (by decide)) dX10_scaleOf_20 ?_
    refine lv_cgi (y := (F 14 lg)) (nn_at (F 14) (by omega)) ?_
    refine lv_iload_n hx hb dX10_scaleOf_21 rfl (lv_at hl 2 rfl) ?_
    have hp : List.Perm (mW G ad I F rw gd gl : va_W) ([((ad 0), .inr (10, [.int (I 0), .ref (ad 1), .ref (ad 2), .ref (ad 3), .ref (ad 4), .ref (ad 5), .ref (ad 6), .ref (ad 7), .ref (ad 8), .ref (ad 9), .ref (ad 10), .ref (ad 11), .ref (ad 12), .ref (ad 13), .ref (ad 14), .ref (ad 15), .ref (ad 16), .ref (ad 17), .ref (ad 18), .ref (ad 19), .ref (ad 20), .ref (ad 21), .ref (ad 22), .int (I 23), .int (I 24), .int (I 25), .int (I 26), .int (I 27), .int (I 28), .int (I 29), .ref rw, .int (I 31), .int (I 32), .int (I 33), .int (I 34), .int (I 35), .long gd, .long gl, .ref (ad 38), .ref (ad 39), .ref (ad 40), .ref (ad 41), .ref (ad 42), .ref (ad 43), .int (I 44), .int (I 45), .int (I 46), .int (I 47), .int (I 48), .int (I 49)])), ((ad 1), .inl (G.2.2 0, 120, .inl (F 1))), ((ad 2), .inl (G.2.2 0, 2400, .inl (F 2))), ((ad 3), .inl (G.2.2 1, 20, .inl (F 3))), ((ad 4), .inl (G.2.2 1, 20, .inl (F 4))), ((ad 5), .inl (G.2.2 1, 20, .inl (F 5))), ((ad 6), .inl (G.2.2 1, 60, .inl (F 6))), ((ad 7), .inl (G.2.2 1, 60, .inl (F 7))), ((ad 8), .inl (G.2.2 1, 60, .inl (F 8))), ((ad 9), .inl (G.2.2 1, 60, .inl (F 9))), ((ad 10), .inl (G.2.2 1, 100, .inl (F 10))), ((ad 11), .inl (G.2.2 1, 100, .inl (F 11))), ((ad 12), .inl (G.2.2 1, 100, .inl (F 12))), ((ad 13), .inl (G.2.2 1, 100, .inl (F 13))), ((ad 14), .inl (G.2.2 1, 100, .inl (F 14))), ((ad 15), .inl (G.2.2 1, 100, .inl (F 15))), ((ad 16), .inl (G.2.2 1, 100, .inl (F 16))), ((ad 17), .inl (G.2.2 1, 100, .inl (F 17))), ((ad 18), .inl (G.2.2 1, 100, .inl (F 18))), ((ad 19), .inl (G.2.2 1, 6, .inl (F 19))), ((ad 20), .inl (G.2.2 1, 20000, .inl (F 20))), ((ad 21), .inl (G.2.2 1, 20000, .inl (F 21))), ((ad 22), .inl (G.2.2 1, 20000, .inl (F 22))), ((ad 38), .inl (G.2.2 1, 40, .inl (F 38))), ((ad 39), .inl (G.2.2 1, 40, .inl (F 39))), ((ad 40), .inl (G.2.2 1, 2, .inl (F 40))), ((ad 41), .inl (G.2.2 1, 20, .inl (F 41))), ((ad 42), .inl (G.2.2 3, 20, .inl (F 42))), ((ad 43), .inl (G.2.2 3, 20, .inl (F 43)))] ++ []) := pm 29 rfl [0, 1, 2, 3, 4, 5, 6, 7, 8, 9, 10, 11, 12, 13, 14, 15, 16, 17, 18, 19, 20, 21, 22, 23, 24, 25, 26, 27, 28] (by decide +kernel) rfl
    refine k_i C h hp (r_runV C h hp 0 rfl rfl (As := [.int (F 14 lg), .int q]) (rest := []) (m_inForce l G ad I F rw gd gl nl (F 14 lg) q hn hnl) (cwV 2 C.1.1.2.2.2.2 gX10_scaleOf_X10_inForce rfl rfl rfl (by decide +kernel) ⟨Nat.le_of_ble_eq_true rfl, Nat.le_of_ble_eq_true rfl⟩) rfl hl.1 (Nat.le_of_ble_eq_true rfl) dX10_scaleOf_22 ⟨Nat.le_of_ble_eq_true rfl, Nat.le_of_ble_eq_true rfl⟩) (fun r_1 u_2 H locs hw_3 h => ?_)
    have h : gS G A s (mW G ad I F rw gd gl) H locs := h
    refine W.widen (k := 0) (n := 0) (Nat.le_of_ble_eq_true rfl) (Nat.le_of_ble_eq_true rfl) ?_
    subst hw_3
    refine lv_istore_n (lv' := [(3, .int (mFo (F 4) (F 5) (F 14 lg) q nl 0 (-1))), (0, .ref (ad 0)), (1, .int (nI lg)), (2, .int q)]) hx hb dX10_scaleOf_25 rfl hl (by decide) rfl (fun ls hl => ?_)
    refine lv_iload_n hx hb dX10_scaleOf_26 rfl (lv_at hl 0 rfl) ?_
    refine lv_iconst (v := -1) hx hb dX10_scaleOf_27 (by decide) ?_
    refine lv_icmp_ne (tgt := 33) hx hb dX10_scaleOf_28 (by decide) (fun c_28 => ?_) (fun c_28 => ?_)
    · obtain ⟨k, hk, ek⟩ := (mFo_k (F 4) (F 5) (F 14 lg) q nl nl 0 (-1) (by omega) (Or.inl rfl)).resolve_left c_28
      refine lv_iconst (v := 0) hx hb dX10_scaleOf_33 (by decide) ?_
      refine lv_aload_n hx hb dX10_scaleOf_34 rfl (lv_at hl 1 rfl) ?_
      refine r_get C h 0 rfl (Cn := RX10) (T := TX10) (N := 50) rfl hinX10 12 (by decide) (index := 44) (ref := "ScaleHouseModel") wd1 rfl (v := .ref (ad 12)) rfl dX10_scaleOf_35 ?_
      refine lv_iload_n hx hb dX10_scaleOf_38 rfl (lv_at hl 2 rfl) ?_
      refine r_iald C h 12 rfl (i := (nI lg)) (vp_in_nI (by omega) (by decide)) dX10_scaleOf_39 ?_
      refine lv_cgi (y := (F 12 lg)) (nn_at (F 12) (by omega)) ?_
      refine lv_sipush (v := 1000) hx hb dX10_scaleOf_40 (by decide) ?_
      refine lv_imul hx hb dX10_scaleOf_43 ?_
      refine lv_sipush (v := 1000) hx hb dX10_scaleOf_44 (by decide) ?_
      refine lv_aload_n hx hb dX10_scaleOf_47 rfl (lv_at hl 1 rfl) ?_
      refine lv_aload_n hx hb dX10_scaleOf_48 rfl (lv_at hl 1 rfl) ?_
      refine r_get C h 0 rfl (Cn := RX10) (T := TX10) (N := 50) rfl hinX10 11 (by decide) (index := 41) (ref := "ScaleHouseModel") wd2 rfl (v := .ref (ad 11)) rfl dX10_scaleOf_49 ?_
      refine lv_iload_n hx hb dX10_scaleOf_52 rfl (lv_at hl 2 rfl) ?_
      refine r_iald C h 11 rfl (i := (nI lg)) (vp_in_nI (by omega) (by decide)) dX10_scaleOf_53 ?_
      refine lv_cgi (y := (F 11 lg)) (nn_at (F 11) (by omega)) ?_
      refine lv_aload_n hx hb dX10_scaleOf_54 rfl (lv_at hl 1 rfl) ?_
      refine r_get C h 0 rfl (Cn := RX10) (T := TX10) (N := 50) rfl hinX10 14 (by decide) (index := 50) (ref := "ScaleHouseModel") wd0 rfl (v := .ref (ad 14)) rfl dX10_scaleOf_55 ?_
      refine lv_iload_n hx hb dX10_scaleOf_58 rfl (lv_at hl 2 rfl) ?_
      refine r_iald C h 14 rfl (i := (nI lg)) (vp_in_nI (by omega) (by decide)) dX10_scaleOf_59 ?_
      refine lv_cgi (y := (F 14 lg)) (nn_at (F 14) (by omega)) ?_
      refine lv_iload_n hx hb dX10_scaleOf_60 rfl (lv_at hl 3 rfl) ?_
      have hp : List.Perm (mW G ad I F rw gd gl : va_W) ([((ad 0), .inr (10, [.int (I 0), .ref (ad 1), .ref (ad 2), .ref (ad 3), .ref (ad 4), .ref (ad 5), .ref (ad 6), .ref (ad 7), .ref (ad 8), .ref (ad 9), .ref (ad 10), .ref (ad 11), .ref (ad 12), .ref (ad 13), .ref (ad 14), .ref (ad 15), .ref (ad 16), .ref (ad 17), .ref (ad 18), .ref (ad 19), .ref (ad 20), .ref (ad 21), .ref (ad 22), .int (I 23), .int (I 24), .int (I 25), .int (I 26), .int (I 27), .int (I 28), .int (I 29), .ref rw, .int (I 31), .int (I 32), .int (I 33), .int (I 34), .int (I 35), .long gd, .long gl, .ref (ad 38), .ref (ad 39), .ref (ad 40), .ref (ad 41), .ref (ad 42), .ref (ad 43), .int (I 44), .int (I 45), .int (I 46), .int (I 47), .int (I 48), .int (I 49)])), ((ad 1), .inl (G.2.2 0, 120, .inl (F 1))), ((ad 2), .inl (G.2.2 0, 2400, .inl (F 2))), ((ad 3), .inl (G.2.2 1, 20, .inl (F 3))), ((ad 4), .inl (G.2.2 1, 20, .inl (F 4))), ((ad 5), .inl (G.2.2 1, 20, .inl (F 5))), ((ad 6), .inl (G.2.2 1, 60, .inl (F 6))), ((ad 7), .inl (G.2.2 1, 60, .inl (F 7))), ((ad 8), .inl (G.2.2 1, 60, .inl (F 8))), ((ad 9), .inl (G.2.2 1, 60, .inl (F 9))), ((ad 10), .inl (G.2.2 1, 100, .inl (F 10))), ((ad 11), .inl (G.2.2 1, 100, .inl (F 11))), ((ad 12), .inl (G.2.2 1, 100, .inl (F 12))), ((ad 13), .inl (G.2.2 1, 100, .inl (F 13))), ((ad 14), .inl (G.2.2 1, 100, .inl (F 14))), ((ad 15), .inl (G.2.2 1, 100, .inl (F 15))), ((ad 16), .inl (G.2.2 1, 100, .inl (F 16))), ((ad 17), .inl (G.2.2 1, 100, .inl (F 17))), ((ad 18), .inl (G.2.2 1, 100, .inl (F 18))), ((ad 19), .inl (G.2.2 1, 6, .inl (F 19))), ((ad 20), .inl (G.2.2 1, 20000, .inl (F 20))), ((ad 21), .inl (G.2.2 1, 20000, .inl (F 21))), ((ad 22), .inl (G.2.2 1, 20000, .inl (F 22))), ((ad 38), .inl (G.2.2 1, 40, .inl (F 38))), ((ad 39), .inl (G.2.2 1, 40, .inl (F 39))), ((ad 40), .inl (G.2.2 1, 2, .inl (F 40))), ((ad 41), .inl (G.2.2 1, 20, .inl (F 41))), ((ad 42), .inl (G.2.2 3, 20, .inl (F 42))), ((ad 43), .inl (G.2.2 3, 20, .inl (F 43)))] ++ []) := pm 29 rfl [0, 1, 2, 3, 4, 5, 6, 7, 8, 9, 10, 11, 12, 13, 14, 15, 16, 17, 18, 19, 20, 21, 22, 23, 24, 25, 26, 27, 28] (by decide +kernel) rfl
      refine k_i C h hp (r_runV C h hp 0 rfl rfl (As := [.int (F 11 lg), .int (F 14 lg), .int q]) (rest := [.int 1000, .int ((F 12 lg) * 1000), .int 0]) (m_errorOn l G ad I F rw gd gl ne (F 11 lg) (F 14 lg) q he he2) (cwV 3 C.1.1.2.2.2.2 gX10_scaleOf_X10_errorOn rfl rfl rfl (by decide +kernel) ⟨Nat.le_of_ble_eq_true rfl, Nat.le_of_ble_eq_true rfl⟩) rfl hl.1 (Nat.le_of_ble_eq_true rfl) dX10_scaleOf_61 ⟨Nat.le_of_ble_eq_true rfl, Nat.le_of_ble_eq_true rfl⟩) (fun r_4 u_5 H locs hw_6 h => ?_)
      have h : gS G A s (mW G ad I F rw gd gl) H locs := h
      refine W.widen (k := 0) (n := 0) (Nat.le_of_ble_eq_true rfl) (Nat.le_of_ble_eq_true rfl) ?_
      subst hw_6
      refine lv_iadd hx hb dX10_scaleOf_64 ?_
      refine lv_idiv hx hb dX10_scaleOf_65 (th_ne (mEr_b F _ _ q ne hep ne 0 (-1) 0 (by omega) (by decide))) ?_
      refine lv_aload_n hx hb dX10_scaleOf_66 rfl (lv_at hl 1 rfl) ?_
      refine r_get C h 0 rfl (Cn := RX10) (T := TX10) (N := 50) rfl hinX10 15 (by decide) (index := 53) (ref := "ScaleHouseModel") wd3 rfl (v := .ref (ad 15)) rfl dX10_scaleOf_67 ?_
      refine lv_iload_n hx hb dX10_scaleOf_70 rfl (lv_at hl 2 rfl) ?_
      refine r_iald C h 15 rfl (i := (nI lg)) (vp_in_nI (by omega) (by decide)) dX10_scaleOf_71 ?_
      refine lv_cgi (y := (F 15 lg)) (nn_at (F 15) (by omega)) ?_
      refine lv_isub hx hb dX10_scaleOf_72 ?_
      refine va_mmax hx hb (C.1.1.2.2.1.trans hl.1.symm) C.1.1.2.2.2.1 (C.1.1.2.2.2.2 _ wd4) (C.1.1.2.2.2.2 _ wd5) (C.1.1.2.2.2.2 _ wd6) (C.1.1.2.2.2.2 _ wd7) (Nat.le_of_ble_eq_true rfl) (Nat.le_of_ble_eq_true rfl) (Nat.le_of_ble_eq_true rfl) (Nat.le_of_ble_eq_true rfl) dX10_scaleOf_73 ?_
      refine lv_istore (lv' := [(4, .int (if 0 < ((((F 12 lg) * 1000) / (1000 + (mEr (F 6) (F 7) (F 8) (F 9) (F 11 lg) (F 14 lg) q ne 0 (-1) 0))) - (F 15 lg)) then ((((F 12 lg) * 1000) / (1000 + (mEr (F 6) (F 7) (F 8) (F 9) (F 11 lg) (F 14 lg) q ne 0 (-1) 0))) - (F 15 lg)) else 0)), (3, .int (mFo (F 4) (F 5) (F 14 lg) q nl 0 (-1))), (0, .ref (ad 0)), (1, .int (nI lg)), (2, .int q)]) hx hb dX10_scaleOf_76 hl (by decide) rfl (fun ls hl => ?_)
      refine lv_lconst (v := 0) hx hb dX10_scaleOf_78 (by decide) ?_
      refine r_ldc2 C (v := 1000000) wd8 dX10_scaleOf_79 ?_
      refine lv_aload_n hx hb dX10_scaleOf_82 rfl (lv_at hl 2 rfl) ?_
      refine lv_iload_n hx hb dX10_scaleOf_83 rfl (lv_at hl 1 rfl) ?_
      refine lv_cgi (y := (nI k)) (ek) ?_
      refine lv_iload hx hb dX10_scaleOf_84 (lv_at hl 0 rfl) ?_
      refine lv_aload_n hx hb dX10_scaleOf_86 rfl (lv_at hl 2 rfl) ?_
      refine r_get C h 0 rfl (Cn := RX10) (T := TX10) (N := 50) rfl hinX10 13 (by decide) (index := 47) (ref := "ScaleHouseModel") wd9 rfl (v := .ref (ad 13)) rfl dX10_scaleOf_87 ?_
      refine lv_iload_n hx hb dX10_scaleOf_90 rfl (lv_at hl 3 rfl) ?_
      refine r_iald C h 13 rfl (i := (nI lg)) (vp_in_nI (by omega) (by decide)) dX10_scaleOf_91 ?_
      refine lv_cgi (y := (F 13 lg)) (nn_at (F 13) (by omega)) ?_
      have hp : List.Perm (mW G ad I F rw gd gl : va_W) ([((ad 0), .inr (10, [.int (I 0), .ref (ad 1), .ref (ad 2), .ref (ad 3), .ref (ad 4), .ref (ad 5), .ref (ad 6), .ref (ad 7), .ref (ad 8), .ref (ad 9), .ref (ad 10), .ref (ad 11), .ref (ad 12), .ref (ad 13), .ref (ad 14), .ref (ad 15), .ref (ad 16), .ref (ad 17), .ref (ad 18), .ref (ad 19), .ref (ad 20), .ref (ad 21), .ref (ad 22), .int (I 23), .int (I 24), .int (I 25), .int (I 26), .int (I 27), .int (I 28), .int (I 29), .ref rw, .int (I 31), .int (I 32), .int (I 33), .int (I 34), .int (I 35), .long gd, .long gl, .ref (ad 38), .ref (ad 39), .ref (ad 40), .ref (ad 41), .ref (ad 42), .ref (ad 43), .int (I 44), .int (I 45), .int (I 46), .int (I 47), .int (I 48), .int (I 49)])), ((ad 1), .inl (G.2.2 0, 120, .inl (F 1))), ((ad 2), .inl (G.2.2 0, 2400, .inl (F 2))), ((ad 3), .inl (G.2.2 1, 20, .inl (F 3))), ((ad 4), .inl (G.2.2 1, 20, .inl (F 4))), ((ad 5), .inl (G.2.2 1, 20, .inl (F 5))), ((ad 6), .inl (G.2.2 1, 60, .inl (F 6))), ((ad 7), .inl (G.2.2 1, 60, .inl (F 7))), ((ad 8), .inl (G.2.2 1, 60, .inl (F 8))), ((ad 9), .inl (G.2.2 1, 60, .inl (F 9))), ((ad 10), .inl (G.2.2 1, 100, .inl (F 10))), ((ad 11), .inl (G.2.2 1, 100, .inl (F 11))), ((ad 12), .inl (G.2.2 1, 100, .inl (F 12))), ((ad 13), .inl (G.2.2 1, 100, .inl (F 13))), ((ad 14), .inl (G.2.2 1, 100, .inl (F 14))), ((ad 15), .inl (G.2.2 1, 100, .inl (F 15))), ((ad 16), .inl (G.2.2 1, 100, .inl (F 16))), ((ad 17), .inl (G.2.2 1, 100, .inl (F 17))), ((ad 18), .inl (G.2.2 1, 100, .inl (F 18))), ((ad 19), .inl (G.2.2 1, 6, .inl (F 19))), ((ad 20), .inl (G.2.2 1, 20000, .inl (F 20))), ((ad 21), .inl (G.2.2 1, 20000, .inl (F 21))), ((ad 22), .inl (G.2.2 1, 20000, .inl (F 22))), ((ad 38), .inl (G.2.2 1, 40, .inl (F 38))), ((ad 39), .inl (G.2.2 1, 40, .inl (F 39))), ((ad 40), .inl (G.2.2 1, 2, .inl (F 40))), ((ad 41), .inl (G.2.2 1, 20, .inl (F 41))), ((ad 42), .inl (G.2.2 3, 20, .inl (F 42))), ((ad 43), .inl (G.2.2 3, 20, .inl (F 43)))] ++ []) := pm 29 rfl [0, 1, 2, 3, 4, 5, 6, 7, 8, 9, 10, 11, 12, 13, 14, 15, 16, 17, 18, 19, 20, 21, 22, 23, 24, 25, 26, 27, 28] (by decide +kernel) rfl
      refine k_l C h hp (r_runV C h hp 0 rfl rfl (As := [.int (nI k), .int (if 0 < ((((F 12 lg) * 1000) / (1000 + (mEr (F 6) (F 7) (F 8) (F 9) (F 11 lg) (F 14 lg) q ne 0 (-1) 0))) - (F 15 lg)) then ((((F 12 lg) * 1000) / (1000 + (mEr (F 6) (F 7) (F 8) (F 9) (F 11 lg) (F 14 lg) q ne 0 (-1) 0))) - (F 15 lg)) else 0), .int (F 13 lg)]) (rest := [.long 1000000, .long 0]) (m_lawValue l G ad I F rw gd gl k nl L hL (by omega) hnl (if 0 < ((((F 12 lg) * 1000) / (1000 + (mEr (F 6) (F 7) (F 8) (F 9) (F 11 lg) (F 14 lg) q ne 0 (-1) 0))) - (F 15 lg)) then ((((F 12 lg) * 1000) / (1000 + (mEr (F 6) (F 7) (F 8) (F 9) (F 11 lg) (F 14 lg) q ne 0 (-1) 0))) - (F 15 lg)) else 0) (F 13 lg)) (cwV 3 C.1.1.2.2.2.2 gX10_scaleOf_X10_lawValue rfl rfl rfl (by decide +kernel) ⟨by simp only [gR]; omega, by simp only [gR]; omega⟩) rfl hl.1 (Nat.le_of_ble_eq_true rfl) dX10_scaleOf_92 ⟨Nat.le_of_ble_eq_true rfl, Nat.le_of_ble_eq_true rfl⟩) (fun v1 u1 H locs hwu1 h => ?_)
      have h : gS G A s (mW G ad u1.1 F u1.2.1 u1.2.2.1 u1.2.2.2) H locs := h
      refine W.widen (k := 0) (n := 0) (Nat.le_of_ble_eq_true rfl) (Nat.le_of_ble_eq_true rfl) ?_
      obtain ⟨ev1, hju1⟩ := hwu1
      subst ev1
      refine va_mmin_long hx hb (C.1.1.2.2.1.trans hl.1.symm) C.1.1.2.2.2.1 (C.1.1.2.2.2.2 _ wd10) (C.1.1.2.2.2.2 _ wd11) (C.1.1.2.2.2.2 _ wd6) (C.1.1.2.2.2.2 _ wd12) (Nat.le_of_ble_eq_true rfl) (Nat.le_of_ble_eq_true rfl) (Nat.le_of_ble_eq_true rfl) (Nat.le_of_ble_eq_true rfl) dX10_scaleOf_95 ?_
      refine va_mmax_long hx hb (C.1.1.2.2.1.trans hl.1.symm) C.1.1.2.2.2.1 (C.1.1.2.2.2.2 _ wd13) (C.1.1.2.2.2.2 _ wd14) (C.1.1.2.2.2.2 _ wd6) (C.1.1.2.2.2.2 _ wd15) (Nat.le_of_ble_eq_true rfl) (Nat.le_of_ble_eq_true rfl) (Nat.le_of_ble_eq_true rfl) (Nat.le_of_ble_eq_true rfl) dX10_scaleOf_98 ?_
      refine lv_lstore (lv' := [(5, .long (if (if (mLv F L k (if 0 < ((((F 12 lg) * 1000) / (1000 + (mEr (F 6) (F 7) (F 8) (F 9) (F 11 lg) (F 14 lg) q ne 0 (-1) 0))) - (F 15 lg)) then ((((F 12 lg) * 1000) / (1000 + (mEr (F 6) (F 7) (F 8) (F 9) (F 11 lg) (F 14 lg) q ne 0 (-1) 0))) - (F 15 lg)) else 0) (F 13 lg)) < 1000000 then (mLv F L k (if 0 < ((((F 12 lg) * 1000) / (1000 + (mEr (F 6) (F 7) (F 8) (F 9) (F 11 lg) (F 14 lg) q ne 0 (-1) 0))) - (F 15 lg)) then ((((F 12 lg) * 1000) / (1000 + (mEr (F 6) (F 7) (F 8) (F 9) (F 11 lg) (F 14 lg) q ne 0 (-1) 0))) - (F 15 lg)) else 0) (F 13 lg)) else 1000000) < 0 then 0 else (if (mLv F L k (if 0 < ((((F 12 lg) * 1000) / (1000 + (mEr (F 6) (F 7) (F 8) (F 9) (F 11 lg) (F 14 lg) q ne 0 (-1) 0))) - (F 15 lg)) then ((((F 12 lg) * 1000) / (1000 + (mEr (F 6) (F 7) (F 8) (F 9) (F 11 lg) (F 14 lg) q ne 0 (-1) 0))) - (F 15 lg)) else 0) (F 13 lg)) < 1000000 then (mLv F L k (if 0 < ((((F 12 lg) * 1000) / (1000 + (mEr (F 6) (F 7) (F 8) (F 9) (F 11 lg) (F 14 lg) q ne 0 (-1) 0))) - (F 15 lg)) then ((((F 12 lg) * 1000) / (1000 + (mEr (F 6) (F 7) (F 8) (F 9) (F 11 lg) (F 14 lg) q ne 0 (-1) 0))) - (F 15 lg)) else 0) (F 13 lg)) else 1000000))), (4, .int (if 0 < ((((F 12 lg) * 1000) / (1000 + (mEr (F 6) (F 7) (F 8) (F 9) (F 11 lg) (F 14 lg) q ne 0 (-1) 0))) - (F 15 lg)) then ((((F 12 lg) * 1000) / (1000 + (mEr (F 6) (F 7) (F 8) (F 9) (F 11 lg) (F 14 lg) q ne 0 (-1) 0))) - (F 15 lg)) else 0)), (3, .int (mFo (F 4) (F 5) (F 14 lg) q nl 0 (-1))), (0, .ref (ad 0)), (1, .int (nI lg)), (2, .int q)]) hx hb dX10_scaleOf_101 hl (by decide) rfl (fun ls hl => ?_)
      refine lv_lload hx hb dX10_scaleOf_103 (lv_at hl 0 rfl) ?_
      refine lv_bipush (v := 100) hx hb dX10_scaleOf_105 (by decide) ?_
      refine lv_aload_n hx hb dX10_scaleOf_107 rfl (lv_at hl 3 rfl) ?_
      refine r_get C h 0 rfl (Cn := RX10) (T := TX10) (N := 50) rfl hinX10 16 (by decide) (index := 56) (ref := "ScaleHouseModel") wd16 rfl (v := .ref (ad 16)) rfl dX10_scaleOf_108 ?_
      refine lv_iload_n hx hb dX10_scaleOf_111 rfl (lv_at hl 4 rfl) ?_
      refine r_iald C h 16 rfl (i := (nI lg)) (vp_in_nI (by omega) (by decide)) dX10_scaleOf_112 ?_
      refine lv_cgi (y := (F 16 lg)) (nn_at (F 16) (by omega)) ?_
      refine lv_isub hx hb dX10_scaleOf_113 ?_
      refine lv_i2l hx hb dX10_scaleOf_114 rfl ?_
      refine lv_lmul hx hb dX10_scaleOf_115 ?_
      refine r_ldc2 C (v := 100) wd17 dX10_scaleOf_116 ?_
      refine lv_ldiv hx hb dX10_scaleOf_119 (by decide) ?_
      refine lv_l2i hx hb dX10_scaleOf_120 rfl ?_
      exact r_iret C h hr hlk (Nat.zero_le _) (Nat.zero_le _) (u1.1, u1.2.1, u1.2.2.1, u1.2.2.2) (⟨by simp only [mSc, if_pos c_7, if_neg c_28]; rw [ek, nI_clamp (by omega)], hju1⟩) (rfl) dX10_scaleOf_121
    · refine lv_iconst (v := -1) hx hb dX10_scaleOf_31 (by decide) ?_
      exact r_iret C h hr hlk (Nat.zero_le _) (Nat.zero_le _) (I, rw, gd, gl) (⟨by simp only [mSc, if_pos c_7, if_pos c_28], jk_rf _⟩) (rfl) dX10_scaleOf_32
  · refine lv_iconst (v := -1) hx hb dX10_scaleOf_10 (by decide) ?_
    refine lv_goto (tgt := 25) hx hb dX10_scaleOf_11 (by decide) ?_
    refine lv_istore_n (lv' := [(3, .int (-1)), (0, .ref (ad 0)), (1, .int (nI lg)), (2, .int q)]) hx hb dX10_scaleOf_25 rfl hl (by decide) rfl (fun ls hl => ?_)
    refine lv_iload_n hx hb dX10_scaleOf_26 rfl (lv_at hl 0 rfl) ?_
    refine lv_iconst (v := -1) hx hb dX10_scaleOf_27 (by decide) ?_
    refine lv_icmp_ne (tgt := 33) hx hb dX10_scaleOf_28 (by decide) (fun c_28 => ?_) (fun c_28 => ?_)
    · exact absurd c_28 (by decide)
    · refine lv_iconst (v := -1) hx hb dX10_scaleOf_31 (by decide) ?_
      exact r_iret C h hr hlk (Nat.zero_le _) (Nat.zero_le _) (I, rw, gd, gl) (⟨by simp only [mSc, if_neg c_7], jk_rf _⟩) (rfl) dX10_scaleOf_32

theorem mIsLog_k {I : Nat → Int32} {x : Int32} {n : Nat} (h : ¬ mIsLog I x = 0) (hl : I 27 = nI n) (hn : n < 2 ^ 31) : ∃ k, k < n ∧ x = nI k := by
  unfold mIsLog at h
  split at h
  · exact absurd rfl h
  · next h1 =>
    split at h
    · exact absurd rfl h
    · next h2 =>
      obtain ⟨j, hj, rfl⟩ := nI_of h1
      rw [hl] at h2
      exact ⟨j, nn_lt h2 hj, rfl⟩
def mScale (I : Nat → Int32) (F : Nat → Nat → Int32) (nl ne : Nat) (L : Nat → Nat) (x q : Int32) : Int32 :=
  if mIsLog (upd I 0 0) x = 0 then -1 else if mKnown (upd I 0 0) q = 0 then -1 else mSc F nl ne L x.toNatClampNeg q

set_option maxHeartbeats 4000000 in
set_option maxRecDepth 100000 in
theorem m_scale (l : Launch) (G : gG) (ad : Nat → Nat) (I : Nat → Int32) (F : Nat → Nat → Int32) (rw : Nat) (gd gl : Int64) (nl ne : Nat) (L : Nat → Nat) (hgd : mGd I F nl ne L) (ng : Nat) (hng : I 27 = nI ng) (hng2 : ng ≤ 100) (x q : Int32) : cM l yX10_scale wsX10_scale 90 1050 (0) (0) G [.ref (ad 0), .int x, .int q] (mW G ad I F rw gd gl) (qI G (S := (Nat → Int32) × Nat × Int64 × Int64) (fun r u => r = mScale I F nl ne L x q ∧ jk (upd I 0 0) u.1) (fun u => mW G ad u.1 F u.2.1 u.2.2.1 u.2.2.2)) := by
  refine o_M (cc := cX10_scale) (maxL := 3) (ret := (some .int)) (own := RX10) (by decide +kernel) rfl rfl (Nat.le_of_ble_eq_true rfl) ?_
  intro p e s m below meth c A ls H locs hA C h hr hlk hnm hl
  have hx := C.1.1.1
  have hb := C.1.1.2.1
  have hl : lv_has ls 3 [(0, .ref (ad 0)), (1, .int x), (2, .int q)] := hl
  have wd0 : Cond.fieldLink RX10 106 "ScaleHouseModel" "thrown" "I" ∈ wsX10_scale := by decide +kernel
  have hinX10 : ∀ w ∈ wsX100, w ∈ wsX10_scale := fun _ h => List.mem_cons_of_mem _ (List.mem_append_right _ h)
  refine lv_aload_n hx hb dX10_scale_0 rfl (lv_at hl 0 rfl) ?_
  refine lv_iconst (v := 0) hx hb dX10_scale_1 (by decide) ?_
  refine r_put C h 0 rfl (Cn := RX10) (T := TX10) (N := 50) rfl hinX10 tyX10 tyX10_ok nmX10 0 (by decide) (index := 106) (ref := "ScaleHouseModel") wd0 rfl rfl (v := .int 0) rfl rfl (show 0 < 50 by decide) dX10_scale_2 (fun H locs h => ?_)
  have h : gS G A s (mW G ad (upd I 0 0) F rw gd gl) H locs := h
  refine lv_aload_n hx hb dX10_scale_5 rfl (lv_at hl 0 rfl) ?_
  refine lv_iload_n hx hb dX10_scale_6 rfl (lv_at hl 1 rfl) ?_
  have hp : List.Perm (mW G ad (upd I 0 0) F rw gd gl : va_W) ([((ad 0), .inr (10, [.int 0, .ref (ad 1), .ref (ad 2), .ref (ad 3), .ref (ad 4), .ref (ad 5), .ref (ad 6), .ref (ad 7), .ref (ad 8), .ref (ad 9), .ref (ad 10), .ref (ad 11), .ref (ad 12), .ref (ad 13), .ref (ad 14), .ref (ad 15), .ref (ad 16), .ref (ad 17), .ref (ad 18), .ref (ad 19), .ref (ad 20), .ref (ad 21), .ref (ad 22), .int (I 23), .int (I 24), .int (I 25), .int (I 26), .int (I 27), .int (I 28), .int (I 29), .ref rw, .int (I 31), .int (I 32), .int (I 33), .int (I 34), .int (I 35), .long gd, .long gl, .ref (ad 38), .ref (ad 39), .ref (ad 40), .ref (ad 41), .ref (ad 42), .ref (ad 43), .int (I 44), .int (I 45), .int (I 46), .int (I 47), .int (I 48), .int (I 49)])), ((ad 1), .inl (G.2.2 0, 120, .inl (F 1))), ((ad 2), .inl (G.2.2 0, 2400, .inl (F 2))), ((ad 3), .inl (G.2.2 1, 20, .inl (F 3))), ((ad 4), .inl (G.2.2 1, 20, .inl (F 4))), ((ad 5), .inl (G.2.2 1, 20, .inl (F 5))), ((ad 6), .inl (G.2.2 1, 60, .inl (F 6))), ((ad 7), .inl (G.2.2 1, 60, .inl (F 7))), ((ad 8), .inl (G.2.2 1, 60, .inl (F 8))), ((ad 9), .inl (G.2.2 1, 60, .inl (F 9))), ((ad 10), .inl (G.2.2 1, 100, .inl (F 10))), ((ad 11), .inl (G.2.2 1, 100, .inl (F 11))), ((ad 12), .inl (G.2.2 1, 100, .inl (F 12))), ((ad 13), .inl (G.2.2 1, 100, .inl (F 13))), ((ad 14), .inl (G.2.2 1, 100, .inl (F 14))), ((ad 15), .inl (G.2.2 1, 100, .inl (F 15))), ((ad 16), .inl (G.2.2 1, 100, .inl (F 16))), ((ad 17), .inl (G.2.2 1, 100, .inl (F 17))), ((ad 18), .inl (G.2.2 1, 100, .inl (F 18))), ((ad 19), .inl (G.2.2 1, 6, .inl (F 19))), ((ad 20), .inl (G.2.2 1, 20000, .inl (F 20))), ((ad 21), .inl (G.2.2 1, 20000, .inl (F 21))), ((ad 22), .inl (G.2.2 1, 20000, .inl (F 22))), ((ad 38), .inl (G.2.2 1, 40, .inl (F 38))), ((ad 39), .inl (G.2.2 1, 40, .inl (F 39))), ((ad 40), .inl (G.2.2 1, 2, .inl (F 40))), ((ad 41), .inl (G.2.2 1, 20, .inl (F 41))), ((ad 42), .inl (G.2.2 3, 20, .inl (F 42))), ((ad 43), .inl (G.2.2 3, 20, .inl (F 43)))] ++ []) := pm 29 rfl [0, 1, 2, 3, 4, 5, 6, 7, 8, 9, 10, 11, 12, 13, 14, 15, 16, 17, 18, 19, 20, 21, 22, 23, 24, 25, 26, 27, 28] (by decide +kernel) rfl
  refine k_i C h hp (r_runV C h hp 0 rfl rfl (As := [.int x]) (rest := []) (m_isLog l G ad (upd I 0 0) F rw gd gl x) (cwV 1 C.1.1.2.2.2.2 gX10_scale_X10_isLog rfl rfl rfl (by decide +kernel) ⟨Nat.le_of_ble_eq_true rfl, Nat.le_of_ble_eq_true rfl⟩) rfl hl.1 (Nat.le_of_ble_eq_true rfl) dX10_scale_7 ⟨Nat.le_of_ble_eq_true rfl, Nat.le_of_ble_eq_true rfl⟩) (fun r_1 u_2 H locs hw_3 h => ?_)
  have h : gS G A s (mW G ad (upd I 0 0) F rw gd gl) H locs := h
  refine W.widen (k := 0) (n := 0) (Nat.le_of_ble_eq_true rfl) (Nat.le_of_ble_eq_true rfl) ?_
  subst hw_3
  refine lv_if_eq (tgt := 30) hx hb dX10_scale_10 (by decide) (fun c_10 => ?_) (fun c_10 => ?_)
  · refine lv_iconst (v := -1) hx hb dX10_scale_30 (by decide) ?_
    exact r_iret C h hr hlk (Nat.zero_le _) (Nat.zero_le _) ((upd I 0 0), rw, gd, gl) (⟨by simp only [mScale, if_pos c_10], jk_rf _⟩) (rfl) dX10_scale_31
  · refine lv_aload_n hx hb dX10_scale_13 rfl (lv_at hl 0 rfl) ?_
    refine lv_iload_n hx hb dX10_scale_14 rfl (lv_at hl 2 rfl) ?_
    have hp : List.Perm (mW G ad (upd I 0 0) F rw gd gl : va_W) ([((ad 0), .inr (10, [.int 0, .ref (ad 1), .ref (ad 2), .ref (ad 3), .ref (ad 4), .ref (ad 5), .ref (ad 6), .ref (ad 7), .ref (ad 8), .ref (ad 9), .ref (ad 10), .ref (ad 11), .ref (ad 12), .ref (ad 13), .ref (ad 14), .ref (ad 15), .ref (ad 16), .ref (ad 17), .ref (ad 18), .ref (ad 19), .ref (ad 20), .ref (ad 21), .ref (ad 22), .int (I 23), .int (I 24), .int (I 25), .int (I 26), .int (I 27), .int (I 28), .int (I 29), .ref rw, .int (I 31), .int (I 32), .int (I 33), .int (I 34), .int (I 35), .long gd, .long gl, .ref (ad 38), .ref (ad 39), .ref (ad 40), .ref (ad 41), .ref (ad 42), .ref (ad 43), .int (I 44), .int (I 45), .int (I 46), .int (I 47), .int (I 48), .int (I 49)])), ((ad 1), .inl (G.2.2 0, 120, .inl (F 1))), ((ad 2), .inl (G.2.2 0, 2400, .inl (F 2))), ((ad 3), .inl (G.2.2 1, 20, .inl (F 3))), ((ad 4), .inl (G.2.2 1, 20, .inl (F 4))), ((ad 5), .inl (G.2.2 1, 20, .inl (F 5))), ((ad 6), .inl (G.2.2 1, 60, .inl (F 6))), ((ad 7), .inl (G.2.2 1, 60, .inl (F 7))), ((ad 8), .inl (G.2.2 1, 60, .inl (F 8))), ((ad 9), .inl (G.2.2 1, 60, .inl (F 9))), ((ad 10), .inl (G.2.2 1, 100, .inl (F 10))), ((ad 11), .inl (G.2.2 1, 100, .inl (F 11))), ((ad 12), .inl (G.2.2 1, 100, .inl (F 12))), ((ad 13), .inl (G.2.2 1, 100, .inl (F 13))), ((ad 14), .inl (G.2.2 1, 100, .inl (F 14))), ((ad 15), .inl (G.2.2 1, 100, .inl (F 15))), ((ad 16), .inl (G.2.2 1, 100, .inl (F 16))), ((ad 17), .inl (G.2.2 1, 100, .inl (F 17))), ((ad 18), .inl (G.2.2 1, 100, .inl (F 18))), ((ad 19), .inl (G.2.2 1, 6, .inl (F 19))), ((ad 20), .inl (G.2.2 1, 20000, .inl (F 20))), ((ad 21), .inl (G.2.2 1, 20000, .inl (F 21))), ((ad 22), .inl (G.2.2 1, 20000, .inl (F 22))), ((ad 38), .inl (G.2.2 1, 40, .inl (F 38))), ((ad 39), .inl (G.2.2 1, 40, .inl (F 39))), ((ad 40), .inl (G.2.2 1, 2, .inl (F 40))), ((ad 41), .inl (G.2.2 1, 20, .inl (F 41))), ((ad 42), .inl (G.2.2 3, 20, .inl (F 42))), ((ad 43), .inl (G.2.2 3, 20, .inl (F 43)))] ++ []) := pm 29 rfl [0, 1, 2, 3, 4, 5, 6, 7, 8, 9, 10, 11, 12, 13, 14, 15, 16, 17, 18, 19, 20, 21, 22, 23, 24, 25, 26, 27, 28] (by decide +kernel) rfl
    refine k_i C h hp (r_runV C h hp 0 rfl rfl (As := [.int q]) (rest := []) (m_isKnown l G ad (upd I 0 0) F rw gd gl q) (cwV 1 C.1.1.2.2.2.2 gX10_scale_X10_isKnown rfl rfl rfl (by decide +kernel) ⟨Nat.le_of_ble_eq_true rfl, Nat.le_of_ble_eq_true rfl⟩) rfl hl.1 (Nat.le_of_ble_eq_true rfl) dX10_scale_15 ⟨Nat.le_of_ble_eq_true rfl, Nat.le_of_ble_eq_true rfl⟩) (fun r_4 u_5 H locs hw_6 h => ?_)
    have h : gS G A s (mW G ad (upd I 0 0) F rw gd gl) H locs := h
    refine W.widen (k := 0) (n := 0) (Nat.le_of_ble_eq_true rfl) (Nat.le_of_ble_eq_true rfl) ?_
    subst hw_6
    refine lv_if_eq (tgt := 30) hx hb dX10_scale_18 (by decide) (fun c_18 => ?_) (fun c_18 => ?_)
    · refine lv_iconst (v := -1) hx hb dX10_scale_30 (by decide) ?_
      exact r_iret C h hr hlk (Nat.zero_le _) (Nat.zero_le _) ((upd I 0 0), rw, gd, gl) (⟨by simp only [mScale, if_neg c_10, if_pos c_18], jk_rf _⟩) (rfl) dX10_scale_31
    · obtain ⟨k, hk, ek⟩ := mIsLog_k (I := upd I 0 0) c_10 hng (by omega)
      refine lv_aload_n hx hb dX10_scale_21 rfl (lv_at hl 0 rfl) ?_
      refine lv_iload_n hx hb dX10_scale_22 rfl (lv_at hl 1 rfl) ?_
      refine lv_cgi (y := (nI k)) (ek) ?_
      refine lv_iload_n hx hb dX10_scale_23 rfl (lv_at hl 2 rfl) ?_
      have hp : List.Perm (mW G ad (upd I 0 0) F rw gd gl : va_W) ([((ad 0), .inr (10, [.int 0, .ref (ad 1), .ref (ad 2), .ref (ad 3), .ref (ad 4), .ref (ad 5), .ref (ad 6), .ref (ad 7), .ref (ad 8), .ref (ad 9), .ref (ad 10), .ref (ad 11), .ref (ad 12), .ref (ad 13), .ref (ad 14), .ref (ad 15), .ref (ad 16), .ref (ad 17), .ref (ad 18), .ref (ad 19), .ref (ad 20), .ref (ad 21), .ref (ad 22), .int (I 23), .int (I 24), .int (I 25), .int (I 26), .int (I 27), .int (I 28), .int (I 29), .ref rw, .int (I 31), .int (I 32), .int (I 33), .int (I 34), .int (I 35), .long gd, .long gl, .ref (ad 38), .ref (ad 39), .ref (ad 40), .ref (ad 41), .ref (ad 42), .ref (ad 43), .int (I 44), .int (I 45), .int (I 46), .int (I 47), .int (I 48), .int (I 49)])), ((ad 1), .inl (G.2.2 0, 120, .inl (F 1))), ((ad 2), .inl (G.2.2 0, 2400, .inl (F 2))), ((ad 3), .inl (G.2.2 1, 20, .inl (F 3))), ((ad 4), .inl (G.2.2 1, 20, .inl (F 4))), ((ad 5), .inl (G.2.2 1, 20, .inl (F 5))), ((ad 6), .inl (G.2.2 1, 60, .inl (F 6))), ((ad 7), .inl (G.2.2 1, 60, .inl (F 7))), ((ad 8), .inl (G.2.2 1, 60, .inl (F 8))), ((ad 9), .inl (G.2.2 1, 60, .inl (F 9))), ((ad 10), .inl (G.2.2 1, 100, .inl (F 10))), ((ad 11), .inl (G.2.2 1, 100, .inl (F 11))), ((ad 12), .inl (G.2.2 1, 100, .inl (F 12))), ((ad 13), .inl (G.2.2 1, 100, .inl (F 13))), ((ad 14), .inl (G.2.2 1, 100, .inl (F 14))), ((ad 15), .inl (G.2.2 1, 100, .inl (F 15))), ((ad 16), .inl (G.2.2 1, 100, .inl (F 16))), ((ad 17), .inl (G.2.2 1, 100, .inl (F 17))), ((ad 18), .inl (G.2.2 1, 100, .inl (F 18))), ((ad 19), .inl (G.2.2 1, 6, .inl (F 19))), ((ad 20), .inl (G.2.2 1, 20000, .inl (F 20))), ((ad 21), .inl (G.2.2 1, 20000, .inl (F 21))), ((ad 22), .inl (G.2.2 1, 20000, .inl (F 22))), ((ad 38), .inl (G.2.2 1, 40, .inl (F 38))), ((ad 39), .inl (G.2.2 1, 40, .inl (F 39))), ((ad 40), .inl (G.2.2 1, 2, .inl (F 40))), ((ad 41), .inl (G.2.2 1, 20, .inl (F 41))), ((ad 42), .inl (G.2.2 3, 20, .inl (F 42))), ((ad 43), .inl (G.2.2 3, 20, .inl (F 43)))] ++ []) := pm 29 rfl [0, 1, 2, 3, 4, 5, 6, 7, 8, 9, 10, 11, 12, 13, 14, 15, 16, 17, 18, 19, 20, 21, 22, 23, 24, 25, 26, 27, 28] (by decide +kernel) rfl
      refine k_i C h hp (r_runV C h hp 0 rfl rfl (As := [.int (nI k), .int q]) (rest := []) (m_scaleOf l G ad (upd I 0 0) F rw gd gl nl ne L (hgd) k (by omega) q) (cwV 2 C.1.1.2.2.2.2 gX10_scale_X10_scaleOf rfl rfl rfl (by decide +kernel) ⟨by simp only [gR]; omega, by simp only [gR]; omega⟩) rfl hl.1 (Nat.le_of_ble_eq_true rfl) dX10_scale_24 ⟨Nat.le_of_ble_eq_true rfl, Nat.le_of_ble_eq_true rfl⟩) (fun v1 u1 H locs hwu1 h => ?_)
      have h : gS G A s (mW G ad u1.1 F u1.2.1 u1.2.2.1 u1.2.2.2) H locs := h
      refine W.widen (k := 0) (n := 0) (Nat.le_of_ble_eq_true rfl) (Nat.le_of_ble_eq_true rfl) ?_
      obtain ⟨ev1, hju1⟩ := hwu1
      subst ev1
      refine lv_goto (tgt := 31) hx hb dX10_scale_27 (by decide) ?_
      exact r_iret C h hr hlk (Nat.zero_le _) (Nat.zero_le _) (u1.1, u1.2.1, u1.2.2.1, u1.2.2.2) (⟨by simp only [mScale, if_neg c_10, if_neg c_18]; rw [ek, nI_clamp (by omega)], hju1⟩) (rfl) dX10_scale_31

def mSm (F : Nat → Nat → Int32) (nl ne : Nat) (L : Nat → Nat) (ow q : Int32) : Nat → Nat → Int32 → Int32
  | 0, _, a => a
  | r + 1, i, a => mSm F nl ne L ow q r (i + 1) (if F 10 i = ow then a + (if 0 < mSc F nl ne L i q then mSc F nl ne L i q else 0) else a + 0)
def mSum (I : Nat → Int32) (F : Nat → Nat → Int32) (nl ne : Nat) (L : Nat → Nat) (ng : Nat) (ow q : Int32) : Int32 :=
  if mIn ow 0 5 = 0 then -1 else if mKnown (upd I 0 0) q = 0 then -1 else mSm F nl ne L ow q ng 0 0

set_option maxHeartbeats 4000000 in
set_option maxRecDepth 100000 in
theorem lp_X10_sum {p : Program} {l : Launch} {e : Env} {fr lo : Nat} {s : State} {m : MethodId} {args : Array Value} {below : List Frame} {meth : Method} {c : Code} {Q : State → Prop} {G : gG} {A : Nat → Prop} (C : gC p m c cX10_sum 5 s args wsX10_sum RX10 G A) (ad : Nat → Nat) (F : Nat → Nat → Int32) (I0 : Nat → Int32) (nl ne : Nat) (L : Nat → Nat) (hgd : mGd I0 F nl ne L) (ng : Nat) (hng : I0 27 = nI ng) (hng2 : ng ≤ 100) (hlo : 1050 ≤ lo) (hfr : 90 ≤ fr) (ow q z : Int32) (kx : ∀ (I : Nat → Int32) (rw : Nat) (gd gl : Int64) (H : Heap) (locs : List Loc) (ls : Array Slot), jk I0 I → gS G A s (mW G ad I F rw gd gl) H locs → lv_has ls 5 [(3, .int z)] → W p l e (gR fr lo 0 0) s m args below meth c H locs 0 0 Q (F0 m 73 ls [])) :
    ∀ (r : Nat) (i : Nat) (a : Int32) (I : Nat → Int32) (rw : Nat) (gd gl : Int64) (H : Heap) (locs : List Loc) (ls : Array Slot), (i + r = ng) → (jk I0 I) → (mSm F nl ne L ow q r i a = z) →  gS G A s (mW G ad I F rw gd gl) H locs → lv_has ls 5 [(0, .ref (ad 0)), (1, .int ow), (2, .int q), (3, .int a), (4, .int (nI i))] → W p l e (gR fr lo 0 0) s m args below meth c H locs 0 0 Q (F0 m 29 ls []) := by
  have hx := C.1.1.1
  have hb := C.1.1.2.1
  have wd0 : Cond.fieldLink RX10 219 "ScaleHouseModel" "logs" "I" ∈ wsX10_sum := by decide +kernel
  have hinX10 : ∀ w ∈ wsX100, w ∈ wsX10_sum := fun _ h => List.mem_cons_of_mem _ (List.mem_append_right _ h)
  have wd1 : Cond.fieldLink RX10 38 "ScaleHouseModel" "logOwner" "[I" ∈ wsX10_sum := by decide +kernel
  have wd2 : Cond.methodLink RX10 229 Lib.Math.max.name ∈ wsX10_sum := by decide +kernel
  have wd3 : Cond.static Lib.Math.max.name ∈ wsX10_sum := by decide +kernel
  have wd4 : Cond.initialized "java/lang/Math" ∈ wsX10_sum := by decide +kernel
  have wd5 : Cond.code Lib.Math.max.name Lib.Math.max.code 2 (some .int) ∈ wsX10_sum := by decide +kernel
  intro r
  induction r with
  | zero =>
    intro i a I rw gd gl H locs ls hi hj hz h hl
    refine lv_iload hx hb dX10_sum_29 (lv_at hl 4 rfl) ?_
    refine lv_aload_n hx hb dX10_sum_31 rfl (lv_at hl 0 rfl) ?_
    refine r_get C h 0 rfl (Cn := RX10) (T := TX10) (N := 50) rfl hinX10 27 (by decide) (index := 219) (ref := "ScaleHouseModel") wd0 rfl (v := .int (I 27)) rfl dX10_sum_32 ?_
    refine lv_cgi (y := (nI ng)) (by rw [hj 27 (by decide), hng]) ?_
    refine lv_icmp_ge (tgt := 73) hx hb dX10_sum_35 (by decide) (fun c_35 => ?_) (fun c_35 => ?_)
    · subst hz
      exact kx _ _ _ _ _ _ ls hj h (lv_sub hl [3] rfl)
    · exact absurd (by rw [show i = ng by omega]; exact Int32.le_refl _) c_35
  | succ r ih =>
    intro i a I rw gd gl H locs ls hi hj hz h hl
    refine lv_iload hx hb dX10_sum_29 (lv_at hl 4 rfl) ?_
    refine lv_aload_n hx hb dX10_sum_31 rfl (lv_at hl 0 rfl) ?_
    refine r_get C h 0 rfl (Cn := RX10) (T := TX10) (N := 50) rfl hinX10 27 (by decide) (index := 219) (ref := "ScaleHouseModel") wd0 rfl (v := .int (I 27)) rfl dX10_sum_32 ?_
    refine lv_cgi (y := (nI ng)) (by rw [hj 27 (by decide), hng]) ?_
    refine lv_icmp_ge (tgt := 73) hx hb dX10_sum_35 (by decide) (fun c_35 => ?_) (fun c_35 => ?_)
    · exact absurd c_35 (nI_ge (by omega) (by omega))
    · refine lv_iload_n hx hb dX10_sum_38 rfl (lv_at hl 3 rfl) ?_
      refine lv_aload_n hx hb dX10_sum_39 rfl (lv_at hl 0 rfl) ?_
      refine r_get C h 0 rfl (Cn := RX10) (T := TX10) (N := 50) rfl hinX10 10 (by decide) (index := 38) (ref := "ScaleHouseModel") wd1 rfl (v := .ref (ad 10)) rfl dX10_sum_40 ?_
      refine lv_iload hx hb dX10_sum_43 (lv_at hl 4 rfl) ?_
      refine r_iald C h 10 rfl (i := (nI i)) (vp_in_nI (by omega) (by decide)) dX10_sum_45 ?_
      refine lv_cgi (y := (F 10 i)) (nn_at (F 10) (by omega)) ?_
      refine lv_iload_n hx hb dX10_sum_46 rfl (lv_at hl 1 rfl) ?_
      refine lv_icmp_ne (tgt := 64) hx hb dX10_sum_47 (by decide) (fun c_47 => ?_) (fun c_47 => ?_)
      · refine lv_iconst (v := 0) hx hb dX10_sum_64 (by decide) ?_
        refine lv_iadd hx hb dX10_sum_65 ?_
        refine lv_istore_n (lv' := [(3, .int (a + 0)), (0, .ref (ad 0)), (1, .int ow), (2, .int q), (4, .int (nI i))]) hx hb dX10_sum_66 rfl hl (by decide) rfl (fun ls hl => ?_)
        refine lv_iinc (v := nI (i + 1)) (lv' := [(4, .int (nI (i + 1))), (3, .int (a + 0)), (0, .ref (ad 0)), (1, .int ow), (2, .int q)]) hx hb dX10_sum_67 hl (k := 4) rfl (nI_1 _) (by decide) rfl (fun ls hl => ?_)
        refine lv_goto (tgt := 29) hx hb dX10_sum_70 (by decide) ?_
        exact ih (i + 1) (a + 0) I rw gd gl _ _ ls (by omega) (hj) (by rw [← hz, mSm]; simp only [if_neg c_47]) h (lv_sub hl [2, 3, 4, 1, 0] rfl)
      · refine lv_iconst (v := 0) hx hb dX10_sum_50 (by decide) ?_
        refine lv_aload_n hx hb dX10_sum_51 rfl (lv_at hl 0 rfl) ?_
        refine lv_iload hx hb dX10_sum_52 (lv_at hl 4 rfl) ?_
        refine lv_iload_n hx hb dX10_sum_54 rfl (lv_at hl 2 rfl) ?_
        have hp : List.Perm (mW G ad I F rw gd gl : va_W) ([((ad 0), .inr (10, [.int (I 0), .ref (ad 1), .ref (ad 2), .ref (ad 3), .ref (ad 4), .ref (ad 5), .ref (ad 6), .ref (ad 7), .ref (ad 8), .ref (ad 9), .ref (ad 10), .ref (ad 11), .ref (ad 12), .ref (ad 13), .ref (ad 14), .ref (ad 15), .ref (ad 16), .ref (ad 17), .ref (ad 18), .ref (ad 19), .ref (ad 20), .ref (ad 21), .ref (ad 22), .int (I 23), .int (I 24), .int (I 25), .int (I 26), .int (I 27), .int (I 28), .int (I 29), .ref rw, .int (I 31), .int (I 32), .int (I 33), .int (I 34), .int (I 35), .long gd, .long gl, .ref (ad 38), .ref (ad 39), .ref (ad 40), .ref (ad 41), .ref (ad 42), .ref (ad 43), .int (I 44), .int (I 45), .int (I 46), .int (I 47), .int (I 48), .int (I 49)])), ((ad 1), .inl (G.2.2 0, 120, .inl (F 1))), ((ad 2), .inl (G.2.2 0, 2400, .inl (F 2))), ((ad 3), .inl (G.2.2 1, 20, .inl (F 3))), ((ad 4), .inl (G.2.2 1, 20, .inl (F 4))), ((ad 5), .inl (G.2.2 1, 20, .inl (F 5))), ((ad 6), .inl (G.2.2 1, 60, .inl (F 6))), ((ad 7), .inl (G.2.2 1, 60, .inl (F 7))), ((ad 8), .inl (G.2.2 1, 60, .inl (F 8))), ((ad 9), .inl (G.2.2 1, 60, .inl (F 9))), ((ad 10), .inl (G.2.2 1, 100, .inl (F 10))), ((ad 11), .inl (G.2.2 1, 100, .inl (F 11))), ((ad 12), .inl (G.2.2 1, 100, .inl (F 12))), ((ad 13), .inl (G.2.2 1, 100, .inl (F 13))), ((ad 14), .inl (G.2.2 1, 100, .inl (F 14))), ((ad 15), .inl (G.2.2 1, 100, .inl (F 15))), ((ad 16), .inl (G.2.2 1, 100, .inl (F 16))), ((ad 17), .inl (G.2.2 1, 100, .inl (F 17))), ((ad 18), .inl (G.2.2 1, 100, .inl (F 18))), ((ad 19), .inl (G.2.2 1, 6, .inl (F 19))), ((ad 20), .inl (G.2.2 1, 20000, .inl (F 20))), ((ad 21), .inl (G.2.2 1, 20000, .inl (F 21))), ((ad 22), .inl (G.2.2 1, 20000, .inl (F 22))), ((ad 38), .inl (G.2.2 1, 40, .inl (F 38))), ((ad 39), .inl (G.2.2 1, 40, .inl (F 39))), ((ad 40), .inl (G.2.2 1, 2, .inl (F 40))), ((ad 41), .inl (G.2.2 1, 20, .inl (F 41))), ((ad 42), .inl (G.2.2 3, 20, .inl (F 42))), ((ad 43), .inl (G.2.2 3, 20, .inl (F 43)))] ++ []) := pm 29 rfl [0, 1, 2, 3, 4, 5, 6, 7, 8, 9, 10, 11, 12, 13, 14, 15, 16, 17, 18, 19, 20, 21, 22, 23, 24, 25, 26, 27, 28] (by decide +kernel) rfl
        refine k_i C h hp (r_runV C h hp 0 rfl rfl (As := [.int (nI i), .int q]) (rest := [.int 0, .int a]) (m_scaleOf l G ad I F rw gd gl nl ne L (mGd_jk hgd hj) i (by omega) q) (cwV 2 C.1.1.2.2.2.2 gX10_sum_X10_scaleOf rfl rfl rfl (by decide +kernel) ⟨by simp only [gR]; omega, by simp only [gR]; omega⟩) rfl hl.1 (Nat.le_of_ble_eq_true rfl) dX10_sum_55 ⟨Nat.le_of_ble_eq_true rfl, Nat.le_of_ble_eq_true rfl⟩) (fun v1 u1 H locs hwu1 h => ?_)
        have h : gS G A s (mW G ad u1.1 F u1.2.1 u1.2.2.1 u1.2.2.2) H locs := h
        refine W.widen (k := 0) (n := 0) (Nat.le_of_ble_eq_true rfl) (Nat.le_of_ble_eq_true rfl) ?_
        obtain ⟨ev1, hju1⟩ := hwu1
        subst ev1
        refine va_mmax hx hb (C.1.1.2.2.1.trans hl.1.symm) C.1.1.2.2.2.1 (C.1.1.2.2.2.2 _ wd2) (C.1.1.2.2.2.2 _ wd3) (C.1.1.2.2.2.2 _ wd4) (C.1.1.2.2.2.2 _ wd5) (Nat.le_trans (m := 1) (Nat.le_of_ble_eq_true rfl) (by show 1 ≤ fr; omega)) (Nat.le_trans (m := 100) (Nat.le_of_ble_eq_true rfl) (by show 100 ≤ lo; omega)) (Nat.le_of_ble_eq_true rfl) (Nat.le_of_ble_eq_true rfl) dX10_sum_58 ?_
        refine lv_goto (tgt := 65) hx hb dX10_sum_61 (by decide) ?_
        refine lv_iadd hx hb dX10_sum_65 ?_
        refine lv_istore_n (lv' := [(3, .int (a + (if 0 < (mSc F nl ne L i q) then (mSc F nl ne L i q) else 0))), (0, .ref (ad 0)), (1, .int ow), (2, .int q), (4, .int (nI i))]) hx hb dX10_sum_66 rfl hl (by decide) rfl (fun ls hl => ?_)
        refine lv_iinc (v := nI (i + 1)) (lv' := [(4, .int (nI (i + 1))), (3, .int (a + (if 0 < (mSc F nl ne L i q) then (mSc F nl ne L i q) else 0))), (0, .ref (ad 0)), (1, .int ow), (2, .int q)]) hx hb dX10_sum_67 hl (k := 4) rfl (nI_1 _) (by decide) rfl (fun ls hl => ?_)
        refine lv_goto (tgt := 29) hx hb dX10_sum_70 (by decide) ?_
        exact ih (i + 1) (a + (if 0 < (mSc F nl ne L i q) then (mSc F nl ne L i q) else 0)) u1.1 u1.2.1 u1.2.2.1 u1.2.2.2 _ _ ls (by omega) (jk_tr hj hju1) (by rw [← hz, mSm]; simp only [if_pos c_47]) h (lv_sub hl [2, 3, 4, 1, 0] rfl)

set_option maxHeartbeats 4000000 in
set_option maxRecDepth 100000 in
theorem m_sum (l : Launch) (G : gG) (ad : Nat → Nat) (I : Nat → Int32) (F : Nat → Nat → Int32) (rw : Nat) (gd gl : Int64) (nl ne : Nat) (L : Nat → Nat) (hgd : mGd I F nl ne L) (ng : Nat) (hng : I 27 = nI ng) (hng2 : ng ≤ 100) (ow q : Int32) : cM l yX10_sum wsX10_sum 90 1050 (0) (0) G [.ref (ad 0), .int ow, .int q] (mW G ad I F rw gd gl) (qI G (S := (Nat → Int32) × Nat × Int64 × Int64) (fun r u => r = mSum I F nl ne L ng ow q ∧ jk (upd I 0 0) u.1) (fun u => mW G ad u.1 F u.2.1 u.2.2.1 u.2.2.2)) := by
  refine o_M (cc := cX10_sum) (maxL := 5) (ret := (some .int)) (own := RX10) (by decide +kernel) rfl rfl (Nat.le_of_ble_eq_true rfl) ?_
  intro p e s m below meth c A ls H locs hA C h hr hlk hnm hl
  have hx := C.1.1.1
  have hb := C.1.1.2.1
  have hl : lv_has ls 5 [(0, .ref (ad 0)), (1, .int ow), (2, .int q)] := hl
  have wd0 : Cond.fieldLink RX10 106 "ScaleHouseModel" "thrown" "I" ∈ wsX10_sum := by decide +kernel
  have hinX10 : ∀ w ∈ wsX100, w ∈ wsX10_sum := fun _ h => List.mem_cons_of_mem _ (List.mem_append_right _ h)
  refine lv_aload_n hx hb dX10_sum_0 rfl (lv_at hl 0 rfl) ?_
  refine lv_iconst (v := 0) hx hb dX10_sum_1 (by decide) ?_
  refine r_put C h 0 rfl (Cn := RX10) (T := TX10) (N := 50) rfl hinX10 tyX10 tyX10_ok nmX10 0 (by decide) (index := 106) (ref := "ScaleHouseModel") wd0 rfl rfl (v := .int 0) rfl rfl (show 0 < 50 by decide) dX10_sum_2 (fun H locs h => ?_)
  have h : gS G A s (mW G ad (upd I 0 0) F rw gd gl) H locs := h
  refine lv_iload_n hx hb dX10_sum_5 rfl (lv_at hl 1 rfl) ?_
  refine lv_iconst (v := 0) hx hb dX10_sum_6 (by decide) ?_
  refine lv_iconst (v := 5) hx hb dX10_sum_7 (by decide) ?_
  have hp : List.Perm (mW G ad (upd I 0 0) F rw gd gl : va_W) ([] ++ ([((ad 0), .inr (10, [.int 0, .ref (ad 1), .ref (ad 2), .ref (ad 3), .ref (ad 4), .ref (ad 5), .ref (ad 6), .ref (ad 7), .ref (ad 8), .ref (ad 9), .ref (ad 10), .ref (ad 11), .ref (ad 12), .ref (ad 13), .ref (ad 14), .ref (ad 15), .ref (ad 16), .ref (ad 17), .ref (ad 18), .ref (ad 19), .ref (ad 20), .ref (ad 21), .ref (ad 22), .int (I 23), .int (I 24), .int (I 25), .int (I 26), .int (I 27), .int (I 28), .int (I 29), .ref rw, .int (I 31), .int (I 32), .int (I 33), .int (I 34), .int (I 35), .long gd, .long gl, .ref (ad 38), .ref (ad 39), .ref (ad 40), .ref (ad 41), .ref (ad 42), .ref (ad 43), .int (I 44), .int (I 45), .int (I 46), .int (I 47), .int (I 48), .int (I 49)])), ((ad 1), .inl (G.2.2 0, 120, .inl (F 1))), ((ad 2), .inl (G.2.2 0, 2400, .inl (F 2))), ((ad 3), .inl (G.2.2 1, 20, .inl (F 3))), ((ad 4), .inl (G.2.2 1, 20, .inl (F 4))), ((ad 5), .inl (G.2.2 1, 20, .inl (F 5))), ((ad 6), .inl (G.2.2 1, 60, .inl (F 6))), ((ad 7), .inl (G.2.2 1, 60, .inl (F 7))), ((ad 8), .inl (G.2.2 1, 60, .inl (F 8))), ((ad 9), .inl (G.2.2 1, 60, .inl (F 9))), ((ad 10), .inl (G.2.2 1, 100, .inl (F 10))), ((ad 11), .inl (G.2.2 1, 100, .inl (F 11))), ((ad 12), .inl (G.2.2 1, 100, .inl (F 12))), ((ad 13), .inl (G.2.2 1, 100, .inl (F 13))), ((ad 14), .inl (G.2.2 1, 100, .inl (F 14))), ((ad 15), .inl (G.2.2 1, 100, .inl (F 15))), ((ad 16), .inl (G.2.2 1, 100, .inl (F 16))), ((ad 17), .inl (G.2.2 1, 100, .inl (F 17))), ((ad 18), .inl (G.2.2 1, 100, .inl (F 18))), ((ad 19), .inl (G.2.2 1, 6, .inl (F 19))), ((ad 20), .inl (G.2.2 1, 20000, .inl (F 20))), ((ad 21), .inl (G.2.2 1, 20000, .inl (F 21))), ((ad 22), .inl (G.2.2 1, 20000, .inl (F 22))), ((ad 38), .inl (G.2.2 1, 40, .inl (F 38))), ((ad 39), .inl (G.2.2 1, 40, .inl (F 39))), ((ad 40), .inl (G.2.2 1, 2, .inl (F 40))), ((ad 41), .inl (G.2.2 1, 20, .inl (F 41))), ((ad 42), .inl (G.2.2 3, 20, .inl (F 42))), ((ad 43), .inl (G.2.2 3, 20, .inl (F 43)))])) := List.Perm.refl _
  refine k_i C h hp (r_runS C h hp (As := [.int ow, .int 0, .int 5]) (rest := []) (m_isIn l G ow 0 5) (va_cwS 3 C.1.1.2.2.2.2 gX10_sum_X10_isIn rfl rfl rfl (by decide +kernel) ⟨Nat.le_of_ble_eq_true rfl, Nat.le_of_ble_eq_true rfl⟩) rfl hl.1 (Nat.le_of_ble_eq_true rfl) dX10_sum_8 ⟨Nat.le_of_ble_eq_true rfl, Nat.le_of_ble_eq_true rfl⟩) (fun r_1 u_2 H locs hw_3 h => ?_)
  have h : gS G A s (mW G ad (upd I 0 0) F rw gd gl) H locs := h
  refine W.widen (k := 0) (n := 0) (Nat.le_of_ble_eq_true rfl) (Nat.le_of_ble_eq_true rfl) ?_
  subst hw_3
  refine lv_if_eq (tgt := 22) hx hb dX10_sum_11 (by decide) (fun c_11 => ?_) (fun c_11 => ?_)
  · refine lv_iconst (v := -1) hx hb dX10_sum_22 (by decide) ?_
    exact r_iret C h hr hlk (Nat.zero_le _) (Nat.zero_le _) ((upd I 0 0), rw, gd, gl) (⟨by simp only [mSum, if_pos c_11], jk_rf _⟩) (rfl) dX10_sum_23
  · refine lv_aload_n hx hb dX10_sum_14 rfl (lv_at hl 0 rfl) ?_
    refine lv_iload_n hx hb dX10_sum_15 rfl (lv_at hl 2 rfl) ?_
    have hp : List.Perm (mW G ad (upd I 0 0) F rw gd gl : va_W) ([((ad 0), .inr (10, [.int 0, .ref (ad 1), .ref (ad 2), .ref (ad 3), .ref (ad 4), .ref (ad 5), .ref (ad 6), .ref (ad 7), .ref (ad 8), .ref (ad 9), .ref (ad 10), .ref (ad 11), .ref (ad 12), .ref (ad 13), .ref (ad 14), .ref (ad 15), .ref (ad 16), .ref (ad 17), .ref (ad 18), .ref (ad 19), .ref (ad 20), .ref (ad 21), .ref (ad 22), .int (I 23), .int (I 24), .int (I 25), .int (I 26), .int (I 27), .int (I 28), .int (I 29), .ref rw, .int (I 31), .int (I 32), .int (I 33), .int (I 34), .int (I 35), .long gd, .long gl, .ref (ad 38), .ref (ad 39), .ref (ad 40), .ref (ad 41), .ref (ad 42), .ref (ad 43), .int (I 44), .int (I 45), .int (I 46), .int (I 47), .int (I 48), .int (I 49)])), ((ad 1), .inl (G.2.2 0, 120, .inl (F 1))), ((ad 2), .inl (G.2.2 0, 2400, .inl (F 2))), ((ad 3), .inl (G.2.2 1, 20, .inl (F 3))), ((ad 4), .inl (G.2.2 1, 20, .inl (F 4))), ((ad 5), .inl (G.2.2 1, 20, .inl (F 5))), ((ad 6), .inl (G.2.2 1, 60, .inl (F 6))), ((ad 7), .inl (G.2.2 1, 60, .inl (F 7))), ((ad 8), .inl (G.2.2 1, 60, .inl (F 8))), ((ad 9), .inl (G.2.2 1, 60, .inl (F 9))), ((ad 10), .inl (G.2.2 1, 100, .inl (F 10))), ((ad 11), .inl (G.2.2 1, 100, .inl (F 11))), ((ad 12), .inl (G.2.2 1, 100, .inl (F 12))), ((ad 13), .inl (G.2.2 1, 100, .inl (F 13))), ((ad 14), .inl (G.2.2 1, 100, .inl (F 14))), ((ad 15), .inl (G.2.2 1, 100, .inl (F 15))), ((ad 16), .inl (G.2.2 1, 100, .inl (F 16))), ((ad 17), .inl (G.2.2 1, 100, .inl (F 17))), ((ad 18), .inl (G.2.2 1, 100, .inl (F 18))), ((ad 19), .inl (G.2.2 1, 6, .inl (F 19))), ((ad 20), .inl (G.2.2 1, 20000, .inl (F 20))), ((ad 21), .inl (G.2.2 1, 20000, .inl (F 21))), ((ad 22), .inl (G.2.2 1, 20000, .inl (F 22))), ((ad 38), .inl (G.2.2 1, 40, .inl (F 38))), ((ad 39), .inl (G.2.2 1, 40, .inl (F 39))), ((ad 40), .inl (G.2.2 1, 2, .inl (F 40))), ((ad 41), .inl (G.2.2 1, 20, .inl (F 41))), ((ad 42), .inl (G.2.2 3, 20, .inl (F 42))), ((ad 43), .inl (G.2.2 3, 20, .inl (F 43)))] ++ []) := pm 29 rfl [0, 1, 2, 3, 4, 5, 6, 7, 8, 9, 10, 11, 12, 13, 14, 15, 16, 17, 18, 19, 20, 21, 22, 23, 24, 25, 26, 27, 28] (by decide +kernel) rfl
    refine k_i C h hp (r_runV C h hp 0 rfl rfl (As := [.int q]) (rest := []) (m_isKnown l G ad (upd I 0 0) F rw gd gl q) (cwV 1 C.1.1.2.2.2.2 gX10_sum_X10_isKnown rfl rfl rfl (by decide +kernel) ⟨Nat.le_of_ble_eq_true rfl, Nat.le_of_ble_eq_true rfl⟩) rfl hl.1 (Nat.le_of_ble_eq_true rfl) dX10_sum_16 ⟨Nat.le_of_ble_eq_true rfl, Nat.le_of_ble_eq_true rfl⟩) (fun r_4 u_5 H locs hw_6 h => ?_)
    have h : gS G A s (mW G ad (upd I 0 0) F rw gd gl) H locs := h
    refine W.widen (k := 0) (n := 0) (Nat.le_of_ble_eq_true rfl) (Nat.le_of_ble_eq_true rfl) ?_
    subst hw_6
    refine lv_if_ne (tgt := 24) hx hb dX10_sum_19 (by decide) (fun c_19 => ?_) (fun c_19 => ?_)
    · refine lv_iconst (v := 0) hx hb dX10_sum_24 (by decide) ?_
      refine lv_istore_n (lv' := [(3, .int 0), (0, .ref (ad 0)), (1, .int ow), (2, .int q)]) hx hb dX10_sum_25 rfl hl (by decide) rfl (fun ls hl => ?_)
      refine lv_iconst (v := 0) hx hb dX10_sum_26 (by decide) ?_
      refine lv_istore (lv' := [(4, .int 0), (3, .int 0), (0, .ref (ad 0)), (1, .int ow), (2, .int q)]) hx hb dX10_sum_27 hl (by decide) rfl (fun ls hl => ?_)
      refine lp_X10_sum C ad F (upd I 0 0) nl ne L hgd ng hng hng2 (by decide) (by decide) ow q (mSm F nl ne L ow q ng 0 0) (fun I9 rw9 gd9 gl9 H locs ls hj h hl => ?_) ng 0 0 _ _ _ _ _ _ ls (by omega) (jk_rf _) rfl h (lv_sub hl [2, 3, 4, 1, 0] rfl)
      refine lv_iload_n hx hb dX10_sum_73 rfl (lv_at hl 0 rfl) ?_
      exact r_iret C h hr hlk (Nat.zero_le _) (Nat.zero_le _) (I9, rw9, gd9, gl9) (⟨by simp only [mSum, if_neg c_11, if_neg c_19], hj⟩) (rfl) dX10_sum_74
    · refine lv_iconst (v := -1) hx hb dX10_sum_22 (by decide) ?_
      exact r_iret C h hr hlk (Nat.zero_le _) (Nat.zero_le _) ((upd I 0 0), rw, gd, gl) (⟨by simp only [mSum, if_neg c_11, if_pos c_19], jk_rf _⟩) (rfl) dX10_sum_23

def mOw (F : Nat → Nat → Int32) (ng : Nat) : Prop := ∀ i, i < ng → ∃ x, x < 6 ∧ F 10 i = nI x
def mPay (F : Nat → Nat → Int32) (nl ne : Nat) (L : Nat → Nat) (now : Int32) (lg : Nat) : Int32 :=
  (if 0 < mSc F nl ne L lg now then mSc F nl ne L lg now else 0) * F 19 (F 10 lg).toNatClampNeg
theorem mSc_cg {F F2 : Nat → Nat → Int32} (nl ne : Nat) (L : Nat → Nat) (lg : Nat) (q : Int32) (h : ∀ k, k < 17 → F2 k = F k) : mSc F2 nl ne L lg q = mSc F nl ne L lg q := by
  unfold mSc mLv
  rw [h 2 (by decide), h 4 (by decide), h 5 (by decide), h 6 (by decide), h 7 (by decide), h 8 (by decide), h 9 (by decide), h 11 (by decide), h 12 (by decide), h 13 (by decide), h 14 (by decide), h 15 (by decide), h 16 (by decide)]
theorem mPay_cg {F F2 : Nat → Nat → Int32} (nl ne : Nat) (L : Nat → Nat) (now : Int32) (lg : Nat) (h : ∀ k, k < 17 → F2 k = F k) (h2 : F2 19 = F 19) : mPay F2 nl ne L now lg = mPay F nl ne L now lg := by
  unfold mPay
  rw [mSc_cg nl ne L lg now h, h2, h 10 (by decide)]

set_option maxHeartbeats 4000000 in
set_option maxRecDepth 100000 in
theorem m_payOf (l : Launch) (G : gG) (ad : Nat → Nat) (I : Nat → Int32) (F : Nat → Nat → Int32) (rw : Nat) (gd gl : Int64) (nl ne : Nat) (L : Nat → Nat) (hgd : mGd I F nl ne L) (ng lg : Nat) (hlg : lg < ng) (hng2 : ng ≤ 100) (how : mOw F ng) : cM l yX10_payOf wsX10_payOf 90 1050 (0) (0) G [.ref (ad 0), .int (nI lg)] (mW G ad I F rw gd gl) (qI G (S := (Nat → Int32) × Nat × Int64 × Int64) (fun r u => r = mPay F nl ne L (I 24) lg ∧ jk I u.1) (fun u => mW G ad u.1 F u.2.1 u.2.2.1 u.2.2.2)) := by
  refine o_M (cc := cX10_payOf) (maxL := 2) (ret := (some .int)) (own := RX10) (by decide +kernel) rfl rfl (Nat.le_of_ble_eq_true rfl) ?_
  intro p e s m below meth c A ls H locs hA C h hr hlk hnm hl
  have hx := C.1.1.1
  have hb := C.1.1.2.1
  have hl : lv_has ls 2 [(0, .ref (ad 0)), (1, .int (nI lg))] := hl
  have wd0 : Cond.fieldLink RX10 202 "ScaleHouseModel" "now" "I" ∈ wsX10_payOf := by decide +kernel
  have hinX10 : ∀ w ∈ wsX100, w ∈ wsX10_payOf := fun _ h => List.mem_cons_of_mem _ (List.mem_append_right _ h)
  have wd1 : Cond.methodLink RX10 229 Lib.Math.max.name ∈ wsX10_payOf := by decide +kernel
  have wd2 : Cond.static Lib.Math.max.name ∈ wsX10_payOf := by decide +kernel
  have wd3 : Cond.initialized "java/lang/Math" ∈ wsX10_payOf := by decide +kernel
  have wd4 : Cond.code Lib.Math.max.name Lib.Math.max.code 2 (some .int) ∈ wsX10_payOf := by decide +kernel
  have wd5 : Cond.fieldLink RX10 65 "ScaleHouseModel" "price" "[I" ∈ wsX10_payOf := by decide +kernel
  have wd6 : Cond.fieldLink RX10 38 "ScaleHouseModel" "logOwner" "[I" ∈ wsX10_payOf := by decide +kernel
  obtain ⟨x9, hx8, hx9⟩ := how lg hlg
  refine lv_iconst (v := 0) hx hb dX10_payOf_0 (by decide) ?_
  refine lv_aload_n hx hb dX10_payOf_1 rfl (lv_at hl 0 rfl) ?_
  refine lv_iload_n hx hb dX10_payOf_2 rfl (lv_at hl 1 rfl) ?_
  refine lv_aload_n hx hb dX10_payOf_3 rfl (lv_at hl 0 rfl) ?_
  refine r_get C h 0 rfl (Cn := RX10) (T := TX10) (N := 50) rfl hinX10 24 (by decide) (index := 202) (ref := "ScaleHouseModel") wd0 rfl (v := .int (I 24)) rfl dX10_payOf_4 ?_
  have hp : List.Perm (mW G ad I F rw gd gl : va_W) ([((ad 0), .inr (10, [.int (I 0), .ref (ad 1), .ref (ad 2), .ref (ad 3), .ref (ad 4), .ref (ad 5), .ref (ad 6), .ref (ad 7), .ref (ad 8), .ref (ad 9), .ref (ad 10), .ref (ad 11), .ref (ad 12), .ref (ad 13), .ref (ad 14), .ref (ad 15), .ref (ad 16), .ref (ad 17), .ref (ad 18), .ref (ad 19), .ref (ad 20), .ref (ad 21), .ref (ad 22), .int (I 23), .int (I 24), .int (I 25), .int (I 26), .int (I 27), .int (I 28), .int (I 29), .ref rw, .int (I 31), .int (I 32), .int (I 33), .int (I 34), .int (I 35), .long gd, .long gl, .ref (ad 38), .ref (ad 39), .ref (ad 40), .ref (ad 41), .ref (ad 42), .ref (ad 43), .int (I 44), .int (I 45), .int (I 46), .int (I 47), .int (I 48), .int (I 49)])), ((ad 1), .inl (G.2.2 0, 120, .inl (F 1))), ((ad 2), .inl (G.2.2 0, 2400, .inl (F 2))), ((ad 3), .inl (G.2.2 1, 20, .inl (F 3))), ((ad 4), .inl (G.2.2 1, 20, .inl (F 4))), ((ad 5), .inl (G.2.2 1, 20, .inl (F 5))), ((ad 6), .inl (G.2.2 1, 60, .inl (F 6))), ((ad 7), .inl (G.2.2 1, 60, .inl (F 7))), ((ad 8), .inl (G.2.2 1, 60, .inl (F 8))), ((ad 9), .inl (G.2.2 1, 60, .inl (F 9))), ((ad 10), .inl (G.2.2 1, 100, .inl (F 10))), ((ad 11), .inl (G.2.2 1, 100, .inl (F 11))), ((ad 12), .inl (G.2.2 1, 100, .inl (F 12))), ((ad 13), .inl (G.2.2 1, 100, .inl (F 13))), ((ad 14), .inl (G.2.2 1, 100, .inl (F 14))), ((ad 15), .inl (G.2.2 1, 100, .inl (F 15))), ((ad 16), .inl (G.2.2 1, 100, .inl (F 16))), ((ad 17), .inl (G.2.2 1, 100, .inl (F 17))), ((ad 18), .inl (G.2.2 1, 100, .inl (F 18))), ((ad 19), .inl (G.2.2 1, 6, .inl (F 19))), ((ad 20), .inl (G.2.2 1, 20000, .inl (F 20))), ((ad 21), .inl (G.2.2 1, 20000, .inl (F 21))), ((ad 22), .inl (G.2.2 1, 20000, .inl (F 22))), ((ad 38), .inl (G.2.2 1, 40, .inl (F 38))), ((ad 39), .inl (G.2.2 1, 40, .inl (F 39))), ((ad 40), .inl (G.2.2 1, 2, .inl (F 40))), ((ad 41), .inl (G.2.2 1, 20, .inl (F 41))), ((ad 42), .inl (G.2.2 3, 20, .inl (F 42))), ((ad 43), .inl (G.2.2 3, 20, .inl (F 43)))] ++ []) := pm 29 rfl [0, 1, 2, 3, 4, 5, 6, 7, 8, 9, 10, 11, 12, 13, 14, 15, 16, 17, 18, 19, 20, 21, 22, 23, 24, 25, 26, 27, 28] (by decide +kernel) rfl
  refine k_i C h hp (r_runV C h hp 0 rfl rfl (As := [.int (nI lg), .int (I 24)]) (rest := [.int 0]) (m_scaleOf l G ad I F rw gd gl nl ne L (hgd) lg (by omega) (I 24)) (cwV 2 C.1.1.2.2.2.2 gX10_payOf_X10_scaleOf rfl rfl rfl (by decide +kernel) ⟨by simp only [gR]; omega, by simp only [gR]; omega⟩) rfl hl.1 (Nat.le_of_ble_eq_true rfl) dX10_payOf_7 ⟨Nat.le_of_ble_eq_true rfl, Nat.le_of_ble_eq_true rfl⟩) (fun v1 u1 H locs hwu1 h => ?_)
  have h : gS G A s (mW G ad u1.1 F u1.2.1 u1.2.2.1 u1.2.2.2) H locs := h
  refine W.widen (k := 0) (n := 0) (Nat.le_of_ble_eq_true rfl) (Nat.le_of_ble_eq_true rfl) ?_
  obtain ⟨ev1, hju1⟩ := hwu1
  subst ev1
  refine va_mmax hx hb (C.1.1.2.2.1.trans hl.1.symm) C.1.1.2.2.2.1 (C.1.1.2.2.2.2 _ wd1) (C.1.1.2.2.2.2 _ wd2) (C.1.1.2.2.2.2 _ wd3) (C.1.1.2.2.2.2 _ wd4) (Nat.le_of_ble_eq_true rfl) (Nat.le_of_ble_eq_true rfl) (Nat.le_of_ble_eq_true rfl) (Nat.le_of_ble_eq_true rfl) dX10_payOf_10 ?_
  refine lv_aload_n hx hb dX10_payOf_13 rfl (lv_at hl 0 rfl) ?_
  refine r_get C h 0 rfl (Cn := RX10) (T := TX10) (N := 50) rfl hinX10 19 (by decide) (index := 65) (ref := "ScaleHouseModel") wd5 rfl (v := .ref (ad 19)) rfl dX10_payOf_14 ?_
  refine lv_aload_n hx hb dX10_payOf_17 rfl (lv_at hl 0 rfl) ?_
  refine r_get C h 0 rfl (Cn := RX10) (T := TX10) (N := 50) rfl hinX10 10 (by decide) (index := 38) (ref := "ScaleHouseModel") wd6 rfl (v := .ref (ad 10)) rfl dX10_payOf_18 ?_
  refine lv_iload_n hx hb dX10_payOf_21 rfl (lv_at hl 1 rfl) ?_
  refine r_iald C h 10 rfl (i := (nI lg)) (vp_in_nI (by omega) (by decide)) dX10_payOf_22 ?_
  refine lv_cgi (y := (F 10 lg)) (nn_at (F 10) (by omega)) ?_
  refine r_iald C h 19 rfl (i := (F 10 lg)) (by rw [hx9]; exact vp_in_nI hx8 (by decide)) dX10_payOf_23 ?_
  refine lv_imul hx hb dX10_payOf_24 ?_
  exact r_iret C h hr hlk (Nat.zero_le _) (Nat.zero_le _) (u1.1, u1.2.1, u1.2.2.1, u1.2.2.2) (⟨rfl, hju1⟩) (rfl) dX10_payOf_25

def mCn (pay bk : Nat → Int32) : Nat → Nat → Nat
  | 0, _ => 0
  | r + 1, i => (if pay i = bk i then 0 else 1) + mCn pay bk r (i + 1)
theorem mCn_le (pay bk : Nat → Int32) : ∀ r i, mCn pay bk r i ≤ r
  | 0, _ => Nat.le_refl 0
  | r + 1, i => by rw [mCn]; have := mCn_le pay bk r (i + 1); split <;> omega
theorem mCn_up (pay bk : Nat → Int32) (j : Nat) (x : Int32) : ∀ r i, j < i → mCn pay (upd bk j x) r i = mCn pay bk r i
  | 0, _, _ => rfl
  | r + 1, i, h => by rw [mCn, mCn, mCn_up pay bk j x r (i + 1) (by omega), pk_un (by omega)]
/-- booked, the lines' three rows, their number, the coins -/
abbrev DB : Type := (Nat → Int32) × (Nat → Int32) × (Nat → Int32) × (Nat → Int32) × Nat × Int32
def mBk (pay : Nat → Int32) (now : Int32) : Nat → Nat → DB → DB
  | 0, _, b => b
  | r + 1, i, b => mBk pay now r (i + 1) (if pay i = b.1 i then b else (upd b.1 i (pay i), upd b.2.1 b.2.2.2.2.1 now, upd b.2.2.1 b.2.2.2.2.1 (nI i), upd b.2.2.2.1 b.2.2.2.2.1 (pay i - b.1 i), b.2.2.2.2.1 + 1, b.2.2.2.2.2 + (pay i - b.1 i)))
/-- all numbers but the parser's own, lines and coins -/
def jd (I J : Nat → Int32) : Prop := ∀ k, ¬ (k = 28 ∨ k = 29 ∨ (31 ≤ k ∧ k ≤ 35)) → J k = I k
theorem jd_jk {I J K : Nat → Int32} (h : jd I J) (h2 : jk J K) : jd I K := fun k hk => (h2 k (fun z => hk (Or.inr (Or.inr z)))).trans (h k hk)
theorem jd_up {I J : Nat → Int32} {k : Nat} {v : Int32} (h : jd I J) (hk : k = 28 ∨ k = 29 ∨ (31 ≤ k ∧ k ≤ 35)) : jd I (upd J k v) := by
  intro i hi
  unfold upd
  rw [if_neg (fun e => hi (by rw [e]; exact hk))]
  exact h i hi
theorem mGd_jd {I J : Nat → Int32} {F F2 : Nat → Nat → Int32} {nl ne : Nat} {L : Nat → Nat} (h : mGd I F nl ne L) (hj : jd I J) (hF : ∀ k, k < 17 → F2 k = F k) : mGd J F2 nl ne L := by
  refine ⟨(hj 25 (by decide)).trans h.1, ?_, h.2.2.1, (hj 26 (by decide)).trans h.2.2.2.1, h.2.2.2.2.1, ?_⟩
  · intro k hk
    rw [hF 2 (by decide), hF 3 (by decide)]
    exact h.2.1 k hk
  · intro k hk
    rw [hF 7 (by decide)]
    exact h.2.2.2.2.2 k hk
theorem fu4 (F : Nat → Nat → Int32) (a b c d : Nat → Int32) : ∀ k, k < 17 → (va_up (va_up (va_up (va_up F 17 a) 20 b) 21 c) 22 d) k = F k := by
  intro k hk
  unfold va_up
  rw [if_neg (by omega), if_neg (by omega), if_neg (by omega), if_neg (by omega)]

set_option maxHeartbeats 4000000 in
set_option maxRecDepth 100000 in
theorem lp_X10_day1 {p : Program} {l : Launch} {e : Env} {fr lo : Nat} {s : State} {m : MethodId} {args : Array Value} {below : List Frame} {meth : Method} {c : Code} {Q : State → Prop} {G : gG} {A : Nat → Prop} (C : gC p m c cX10_day 4 s args wsX10_day RX10 G A) (ad : Nat → Nat) (F : Nat → Nat → Int32) (I0 : Nat → Int32) (nl ne : Nat) (L : Nat → Nat) (hgd : mGd I0 F nl ne L) (ng : Nat) (hng : I0 27 = nI ng) (hng2 : ng ≤ 100) (hlo : 1100 ≤ lo) (hfr : 91 ≤ fr) (how : mOw F ng) (now : Int32) (hnow : I0 24 = now) (z : Nat) (kx : ∀ (I : Nat → Int32) (rw : Nat) (gd gl : Int64) (H : Heap) (locs : List Loc) (ls : Array Slot), jd I0 I → jk I0 I → gS G A s (mW G ad I F rw gd gl) H locs → lv_has ls 4 [(0, .ref (ad 0)), (1, .int (nI z))] → W p l e (gR fr lo 0 0) s m args below meth c H locs 0 0 Q (F0 m 45 ls [])) :
    ∀ (r : Nat) (i a : Nat) (I : Nat → Int32) (rw : Nat) (gd gl : Int64) (H : Heap) (locs : List Loc) (ls : Array Slot), (i + r = ng) → (jd I0 I) → (jk I0 I) → (a + mCn (mPay F nl ne L now) (F 17) r i = z) →  gS G A s (mW G ad I F rw gd gl) H locs → lv_has ls 4 [(0, .ref (ad 0)), (1, .int (nI a)), (2, .int (nI i))] → W p l e (gR fr lo 0 0) s m args below meth c H locs 0 0 Q (F0 m 9 ls []) := by
  have hx := C.1.1.1
  have hb := C.1.1.2.1
  have wd0 : Cond.fieldLink RX10 219 "ScaleHouseModel" "logs" "I" ∈ wsX10_day := by decide +kernel
  have hinX10 : ∀ w ∈ wsX100, w ∈ wsX10_day := fun _ h => List.mem_cons_of_mem _ (List.mem_append_right _ h)
  have wd1 : Cond.fieldLink RX10 59 "ScaleHouseModel" "booked" "[I" ∈ wsX10_day := by decide +kernel
  intro r
  induction r with
  | zero =>
    intro i a I rw gd gl H locs ls hi hj hk0 hz h hl
    refine lv_iload_n hx hb dX10_day_9 rfl (lv_at hl 2 rfl) ?_
    refine lv_aload_n hx hb dX10_day_10 rfl (lv_at hl 0 rfl) ?_
    refine r_get C h 0 rfl (Cn := RX10) (T := TX10) (N := 50) rfl hinX10 27 (by decide) (index := 219) (ref := "ScaleHouseModel") wd0 rfl (v := .int (I 27)) rfl dX10_day_11 ?_
    refine lv_cgi (y := (nI ng)) (by rw [hj 27 (by decide), hng]) ?_
    refine lv_icmp_ge (tgt := 45) hx hb dX10_day_14 (by decide) (fun c_14 => ?_) (fun c_14 => ?_)
    · obtain rfl : a = z := hz
      exact kx _ _ _ _ _ _ ls hj hk0 h (lv_sub hl [0, 1] rfl)
    · exact absurd (by rw [show i = ng by omega]; exact Int32.le_refl _) c_14
  | succ r ih =>
    intro i a I rw gd gl H locs ls hi hj hk0 hz h hl
    refine lv_iload_n hx hb dX10_day_9 rfl (lv_at hl 2 rfl) ?_
    refine lv_aload_n hx hb dX10_day_10 rfl (lv_at hl 0 rfl) ?_
    refine r_get C h 0 rfl (Cn := RX10) (T := TX10) (N := 50) rfl hinX10 27 (by decide) (index := 219) (ref := "ScaleHouseModel") wd0 rfl (v := .int (I 27)) rfl dX10_day_11 ?_
    refine lv_cgi (y := (nI ng)) (by rw [hj 27 (by decide), hng]) ?_
    refine lv_icmp_ge (tgt := 45) hx hb dX10_day_14 (by decide) (fun c_14 => ?_) (fun c_14 => ?_)
    · exact absurd c_14 (nI_ge (by omega) (by omega))
    · refine lv_iload_n hx hb dX10_day_17 rfl (lv_at hl 1 rfl) ?_
      refine lv_aload_n hx hb dX10_day_18 rfl (lv_at hl 0 rfl) ?_
      refine lv_iload_n hx hb dX10_day_19 rfl (lv_at hl 2 rfl) ?_
      have hp : List.Perm (mW G ad I F rw gd gl : va_W) ([((ad 0), .inr (10, [.int (I 0), .ref (ad 1), .ref (ad 2), .ref (ad 3), .ref (ad 4), .ref (ad 5), .ref (ad 6), .ref (ad 7), .ref (ad 8), .ref (ad 9), .ref (ad 10), .ref (ad 11), .ref (ad 12), .ref (ad 13), .ref (ad 14), .ref (ad 15), .ref (ad 16), .ref (ad 17), .ref (ad 18), .ref (ad 19), .ref (ad 20), .ref (ad 21), .ref (ad 22), .int (I 23), .int (I 24), .int (I 25), .int (I 26), .int (I 27), .int (I 28), .int (I 29), .ref rw, .int (I 31), .int (I 32), .int (I 33), .int (I 34), .int (I 35), .long gd, .long gl, .ref (ad 38), .ref (ad 39), .ref (ad 40), .ref (ad 41), .ref (ad 42), .ref (ad 43), .int (I 44), .int (I 45), .int (I 46), .int (I 47), .int (I 48), .int (I 49)])), ((ad 1), .inl (G.2.2 0, 120, .inl (F 1))), ((ad 2), .inl (G.2.2 0, 2400, .inl (F 2))), ((ad 3), .inl (G.2.2 1, 20, .inl (F 3))), ((ad 4), .inl (G.2.2 1, 20, .inl (F 4))), ((ad 5), .inl (G.2.2 1, 20, .inl (F 5))), ((ad 6), .inl (G.2.2 1, 60, .inl (F 6))), ((ad 7), .inl (G.2.2 1, 60, .inl (F 7))), ((ad 8), .inl (G.2.2 1, 60, .inl (F 8))), ((ad 9), .inl (G.2.2 1, 60, .inl (F 9))), ((ad 10), .inl (G.2.2 1, 100, .inl (F 10))), ((ad 11), .inl (G.2.2 1, 100, .inl (F 11))), ((ad 12), .inl (G.2.2 1, 100, .inl (F 12))), ((ad 13), .inl (G.2.2 1, 100, .inl (F 13))), ((ad 14), .inl (G.2.2 1, 100, .inl (F 14))), ((ad 15), .inl (G.2.2 1, 100, .inl (F 15))), ((ad 16), .inl (G.2.2 1, 100, .inl (F 16))), ((ad 17), .inl (G.2.2 1, 100, .inl (F 17))), ((ad 18), .inl (G.2.2 1, 100, .inl (F 18))), ((ad 19), .inl (G.2.2 1, 6, .inl (F 19))), ((ad 20), .inl (G.2.2 1, 20000, .inl (F 20))), ((ad 21), .inl (G.2.2 1, 20000, .inl (F 21))), ((ad 22), .inl (G.2.2 1, 20000, .inl (F 22))), ((ad 38), .inl (G.2.2 1, 40, .inl (F 38))), ((ad 39), .inl (G.2.2 1, 40, .inl (F 39))), ((ad 40), .inl (G.2.2 1, 2, .inl (F 40))), ((ad 41), .inl (G.2.2 1, 20, .inl (F 41))), ((ad 42), .inl (G.2.2 3, 20, .inl (F 42))), ((ad 43), .inl (G.2.2 3, 20, .inl (F 43)))] ++ []) := pm 29 rfl [0, 1, 2, 3, 4, 5, 6, 7, 8, 9, 10, 11, 12, 13, 14, 15, 16, 17, 18, 19, 20, 21, 22, 23, 24, 25, 26, 27, 28] (by decide +kernel) rfl
      refine k_i C h hp (r_runV C h hp 0 rfl rfl (As := [.int (nI i)]) (rest := [.int (nI a)]) (m_payOf l G ad I F rw gd gl nl ne L (mGd_jd hgd hj (fun _ _ => rfl)) ng i (by omega) hng2 (how)) (cwV 1 C.1.1.2.2.2.2 gX10_day_X10_payOf rfl rfl rfl (by decide +kernel) ⟨by simp only [gR]; omega, by simp only [gR]; omega⟩) rfl hl.1 (Nat.le_of_ble_eq_true rfl) dX10_day_20 ⟨Nat.le_of_ble_eq_true rfl, Nat.le_of_ble_eq_true rfl⟩) (fun v1 u1 H locs hwu1 h => ?_)
      have h : gS G A s (mW G ad u1.1 F u1.2.1 u1.2.2.1 u1.2.2.2) H locs := h
      refine W.widen (k := 0) (n := 0) (Nat.le_of_ble_eq_true rfl) (Nat.le_of_ble_eq_true rfl) ?_
      obtain ⟨ev1, hju1⟩ := hwu1
      rw [hj 24 (by decide), hnow] at ev1
      subst ev1
      refine lv_aload_n hx hb dX10_day_23 rfl (lv_at hl 0 rfl) ?_
      refine r_get C h 0 rfl (Cn := RX10) (T := TX10) (N := 50) rfl hinX10 17 (by decide) (index := 59) (ref := "ScaleHouseModel") wd1 rfl (v := .ref (ad 17)) rfl dX10_day_24 ?_
      refine lv_iload_n hx hb dX10_day_27 rfl (lv_at hl 2 rfl) ?_
      refine r_iald C h 17 rfl (i := (nI i)) (vp_in_nI (by omega) (by decide)) dX10_day_28 ?_
      refine lv_cgi (y := (F 17 i)) (nn_at (F 17) (by omega)) ?_
      refine lv_icmp_eq (tgt := 36) hx hb dX10_day_29 (by decide) (fun c_29 => ?_) (fun c_29 => ?_)
      · refine lv_iconst (v := 0) hx hb dX10_day_36 (by decide) ?_
        refine lv_iadd hx hb dX10_day_37 ?_
        refine lv_cgi (y := (nI a)) (Int32.add_zero _) ?_
        refine lv_istore_n (lv' := [(1, .int (nI a)), (0, .ref (ad 0)), (2, .int (nI i))]) hx hb dX10_day_38 rfl hl (by decide) rfl (fun ls hl => ?_)
        refine lv_iinc (v := nI (i + 1)) (lv' := [(2, .int (nI (i + 1))), (1, .int (nI a)), (0, .ref (ad 0))]) hx hb dX10_day_39 hl (k := 2) rfl (nI_1 _) (by decide) rfl (fun ls hl => ?_)
        refine lv_goto (tgt := 9) hx hb dX10_day_42 (by decide) ?_
        exact ih (i + 1) a u1.1 u1.2.1 u1.2.2.1 u1.2.2.2 _ _ ls (by omega) (jd_jk hj hju1) (jk_tr hk0 hju1) (by rw [← hz, mCn]; simp only [if_pos c_29]; omega) h (lv_sub hl [2, 1, 0] rfl)
      · refine lv_iconst (v := 1) hx hb dX10_day_32 (by decide) ?_
        refine lv_goto (tgt := 37) hx hb dX10_day_33 (by decide) ?_
        refine lv_iadd hx hb dX10_day_37 ?_
        refine lv_cgi (y := (nI (a + 1))) (nI_1 a) ?_
        refine lv_istore_n (lv' := [(1, .int (nI (a + 1))), (0, .ref (ad 0)), (2, .int (nI i))]) hx hb dX10_day_38 rfl hl (by decide) rfl (fun ls hl => ?_)
        refine lv_iinc (v := nI (i + 1)) (lv' := [(2, .int (nI (i + 1))), (1, .int (nI (a + 1))), (0, .ref (ad 0))]) hx hb dX10_day_39 hl (k := 2) rfl (nI_1 _) (by decide) rfl (fun ls hl => ?_)
        refine lv_goto (tgt := 9) hx hb dX10_day_42 (by decide) ?_
        exact ih (i + 1) (a + 1) u1.1 u1.2.1 u1.2.2.1 u1.2.2.2 _ _ ls (by omega) (jd_jk hj hju1) (jk_tr hk0 hju1) (by rw [← hz, mCn]; simp only [if_neg c_29]; omega) h (lv_sub hl [2, 1, 0] rfl)

set_option maxHeartbeats 4000000 in
set_option maxRecDepth 100000 in
theorem lp_X10_day2 {p : Program} {l : Launch} {e : Env} {fr lo : Nat} {s : State} {m : MethodId} {args : Array Value} {below : List Frame} {meth : Method} {c : Code} {Q : State → Prop} {G : gG} {A : Nat → Prop} (C : gC p m c cX10_day 4 s args wsX10_day RX10 G A) (ad : Nat → Nat) (F : Nat → Nat → Int32) (I0 : Nat → Int32) (nl ne : Nat) (L : Nat → Nat) (hgd : mGd I0 F nl ne L) (ng : Nat) (hng : I0 27 = nI ng) (hng2 : ng ≤ 100) (hlo : 1100 ≤ lo) (hfr : 91 ≤ fr) (how : mOw F ng) (now : Int32) (hnow : I0 24 = now) (mz : Int32) (z : DB) (kx : ∀ (I : Nat → Int32) (rw : Nat) (gd gl : Int64) (H : Heap) (locs : List Loc) (ls : Array Slot), jd I0 I → I 28 = nI z.2.2.2.2.1 → I 29 = z.2.2.2.2.2 → gS G A s (mW G ad I (va_up (va_up (va_up (va_up F 17 z.1) 20 z.2.1) 21 z.2.2.1) 22 z.2.2.2.1) rw gd gl) H locs → lv_has ls 4 [(0, .ref (ad 0)), (1, .int mz)] → W p l e (gR fr lo 0 0) s m args below meth c H locs 0 0 Q (F0 m 178 ls [])) :
    ∀ (r : Nat) (i : Nat) (b : DB) (I : Nat → Int32) (rw : Nat) (gd gl : Int64) (H : Heap) (locs : List Loc) (ls : Array Slot), (i + r = ng) → (jd I0 I) → (I 28 = nI b.2.2.2.2.1) → (I 29 = b.2.2.2.2.2) → (b.2.2.2.2.1 + mCn (mPay F nl ne L now) b.1 r i ≤ 20000) → (mBk (mPay F nl ne L now) now r i b = z) →  gS G A s (mW G ad I (va_up (va_up (va_up (va_up F 17 b.1) 20 b.2.1) 21 b.2.2.1) 22 b.2.2.2.1) rw gd gl) H locs → lv_has ls 4 [(0, .ref (ad 0)), (1, .int mz), (2, .int (nI i))] → W p l e (gR fr lo 0 0) s m args below meth c H locs 0 0 Q (F0 m 71 ls []) := by
  have hx := C.1.1.1
  have hb := C.1.1.2.1
  have wd0 : Cond.fieldLink RX10 219 "ScaleHouseModel" "logs" "I" ∈ wsX10_day := by decide +kernel
  have hinX10 : ∀ w ∈ wsX100, w ∈ wsX10_day := fun _ h => List.mem_cons_of_mem _ (List.mem_append_right _ h)
  have wd1 : Cond.fieldLink RX10 59 "ScaleHouseModel" "booked" "[I" ∈ wsX10_day := by decide +kernel
  have wd2 : Cond.fieldLink RX10 68 "ScaleHouseModel" "lineDay" "[I" ∈ wsX10_day := by decide +kernel
  have wd3 : Cond.fieldLink RX10 241 "ScaleHouseModel" "lines" "I" ∈ wsX10_day := by decide +kernel
  have wd4 : Cond.fieldLink RX10 202 "ScaleHouseModel" "now" "I" ∈ wsX10_day := by decide +kernel
  have wd5 : Cond.fieldLink RX10 71 "ScaleHouseModel" "lineLog" "[I" ∈ wsX10_day := by decide +kernel
  have wd6 : Cond.fieldLink RX10 74 "ScaleHouseModel" "lineCoins" "[I" ∈ wsX10_day := by decide +kernel
  have wd7 : Cond.fieldLink RX10 244 "ScaleHouseModel" "coins" "I" ∈ wsX10_day := by decide +kernel
  intro r
  induction r with
  | zero =>
    intro i b I rw gd gl H locs ls hi hj h28 h29 hc hz h hl
    refine lv_iload_n hx hb dX10_day_71 rfl (lv_at hl 2 rfl) ?_
    refine lv_aload_n hx hb dX10_day_72 rfl (lv_at hl 0 rfl) ?_
    refine r_get C h 0 rfl (Cn := RX10) (T := TX10) (N := 50) rfl hinX10 27 (by decide) (index := 219) (ref := "ScaleHouseModel") wd0 rfl (v := .int (I 27)) rfl dX10_day_73 ?_
    refine lv_cgi (y := (nI ng)) (by rw [hj 27 (by decide), hng]) ?_
    refine lv_icmp_ge (tgt := 178) hx hb dX10_day_76 (by decide) (fun c_76 => ?_) (fun c_76 => ?_)
    · obtain rfl : b = z := hz
      exact kx _ _ _ _ _ _ ls hj h28 h29 h (lv_sub hl [0, 1] rfl)
    · exact absurd (by rw [show i = ng by omega]; exact Int32.le_refl _) c_76
  | succ r ih =>
    intro i b I rw gd gl H locs ls hi hj h28 h29 hc hz h hl
    refine lv_iload_n hx hb dX10_day_71 rfl (lv_at hl 2 rfl) ?_
    refine lv_aload_n hx hb dX10_day_72 rfl (lv_at hl 0 rfl) ?_
    refine r_get C h 0 rfl (Cn := RX10) (T := TX10) (N := 50) rfl hinX10 27 (by decide) (index := 219) (ref := "ScaleHouseModel") wd0 rfl (v := .int (I 27)) rfl dX10_day_73 ?_
    refine lv_cgi (y := (nI ng)) (by rw [hj 27 (by decide), hng]) ?_
    refine lv_icmp_ge (tgt := 178) hx hb dX10_day_76 (by decide) (fun c_76 => ?_) (fun c_76 => ?_)
    · exact absurd c_76 (nI_ge (by omega) (by omega))
    · refine lv_aload_n hx hb dX10_day_79 rfl (lv_at hl 0 rfl) ?_
      refine lv_iload_n hx hb dX10_day_80 rfl (lv_at hl 2 rfl) ?_
      have hp : List.Perm (mW G ad I (va_up (va_up (va_up (va_up F 17 b.1) 20 b.2.1) 21 b.2.2.1) 22 b.2.2.2.1) rw gd gl : va_W) ([((ad 0), .inr (10, [.int (I 0), .ref (ad 1), .ref (ad 2), .ref (ad 3), .ref (ad 4), .ref (ad 5), .ref (ad 6), .ref (ad 7), .ref (ad 8), .ref (ad 9), .ref (ad 10), .ref (ad 11), .ref (ad 12), .ref (ad 13), .ref (ad 14), .ref (ad 15), .ref (ad 16), .ref (ad 17), .ref (ad 18), .ref (ad 19), .ref (ad 20), .ref (ad 21), .ref (ad 22), .int (I 23), .int (I 24), .int (I 25), .int (I 26), .int (I 27), .int (I 28), .int (I 29), .ref rw, .int (I 31), .int (I 32), .int (I 33), .int (I 34), .int (I 35), .long gd, .long gl, .ref (ad 38), .ref (ad 39), .ref (ad 40), .ref (ad 41), .ref (ad 42), .ref (ad 43), .int (I 44), .int (I 45), .int (I 46), .int (I 47), .int (I 48), .int (I 49)])), ((ad 1), .inl (G.2.2 0, 120, .inl (F 1))), ((ad 2), .inl (G.2.2 0, 2400, .inl (F 2))), ((ad 3), .inl (G.2.2 1, 20, .inl (F 3))), ((ad 4), .inl (G.2.2 1, 20, .inl (F 4))), ((ad 5), .inl (G.2.2 1, 20, .inl (F 5))), ((ad 6), .inl (G.2.2 1, 60, .inl (F 6))), ((ad 7), .inl (G.2.2 1, 60, .inl (F 7))), ((ad 8), .inl (G.2.2 1, 60, .inl (F 8))), ((ad 9), .inl (G.2.2 1, 60, .inl (F 9))), ((ad 10), .inl (G.2.2 1, 100, .inl (F 10))), ((ad 11), .inl (G.2.2 1, 100, .inl (F 11))), ((ad 12), .inl (G.2.2 1, 100, .inl (F 12))), ((ad 13), .inl (G.2.2 1, 100, .inl (F 13))), ((ad 14), .inl (G.2.2 1, 100, .inl (F 14))), ((ad 15), .inl (G.2.2 1, 100, .inl (F 15))), ((ad 16), .inl (G.2.2 1, 100, .inl (F 16))), ((ad 17), .inl (G.2.2 1, 100, .inl b.1)), ((ad 18), .inl (G.2.2 1, 100, .inl (F 18))), ((ad 19), .inl (G.2.2 1, 6, .inl (F 19))), ((ad 20), .inl (G.2.2 1, 20000, .inl b.2.1)), ((ad 21), .inl (G.2.2 1, 20000, .inl b.2.2.1)), ((ad 22), .inl (G.2.2 1, 20000, .inl b.2.2.2.1)), ((ad 38), .inl (G.2.2 1, 40, .inl (F 38))), ((ad 39), .inl (G.2.2 1, 40, .inl (F 39))), ((ad 40), .inl (G.2.2 1, 2, .inl (F 40))), ((ad 41), .inl (G.2.2 1, 20, .inl (F 41))), ((ad 42), .inl (G.2.2 3, 20, .inl (F 42))), ((ad 43), .inl (G.2.2 3, 20, .inl (F 43)))] ++ []) := pm 29 rfl [0, 1, 2, 3, 4, 5, 6, 7, 8, 9, 10, 11, 12, 13, 14, 15, 16, 17, 18, 19, 20, 21, 22, 23, 24, 25, 26, 27, 28] (by decide +kernel) rfl
      refine k_i C h hp (r_runV C h hp 0 rfl rfl (As := [.int (nI i)]) (rest := []) (m_payOf l G ad I (va_up (va_up (va_up (va_up F 17 b.1) 20 b.2.1) 21 b.2.2.1) 22 b.2.2.2.1) rw gd gl nl ne L (mGd_jd hgd hj (fu4 F _ _ _ _)) ng i (by omega) hng2 (fun i hi => how i hi)) (cwV 1 C.1.1.2.2.2.2 gX10_day_X10_payOf rfl rfl rfl (by decide +kernel) ⟨by simp only [gR]; omega, by simp only [gR]; omega⟩) rfl hl.1 (Nat.le_of_ble_eq_true rfl) dX10_day_81 ⟨Nat.le_of_ble_eq_true rfl, Nat.le_of_ble_eq_true rfl⟩) (fun v1 u1 H locs hwu1 h => ?_)
      have h : gS G A s (mW G ad u1.1 (va_up (va_up (va_up (va_up F 17 b.1) 20 b.2.1) 21 b.2.2.1) 22 b.2.2.2.1) u1.2.1 u1.2.2.1 u1.2.2.2) H locs := h
      refine W.widen (k := 0) (n := 0) (Nat.le_of_ble_eq_true rfl) (Nat.le_of_ble_eq_true rfl) ?_
      obtain ⟨ev1, hju1⟩ := hwu1
      rw [mPay_cg nl ne L _ i (fu4 F _ _ _ _) rfl, hj 24 (by decide), hnow] at ev1
      subst ev1
      refine lv_istore_n (lv' := [(3, .int (mPay F nl ne L now i)), (0, .ref (ad 0)), (1, .int mz), (2, .int (nI i))]) hx hb dX10_day_84 rfl hl (by decide) rfl (fun ls hl => ?_)
      refine lv_iload_n hx hb dX10_day_85 rfl (lv_at hl 0 rfl) ?_
      refine lv_aload_n hx hb dX10_day_86 rfl (lv_at hl 1 rfl) ?_
      refine r_get C h 0 rfl (Cn := RX10) (T := TX10) (N := 50) rfl hinX10 17 (by decide) (index := 59) (ref := "ScaleHouseModel") wd1 rfl (v := .ref (ad 17)) rfl dX10_day_87 ?_
      refine lv_iload_n hx hb dX10_day_90 rfl (lv_at hl 3 rfl) ?_
      refine r_iald C h 17 rfl (i := (nI i)) (vp_in_nI (by omega) (by decide)) dX10_day_91 ?_
      refine lv_cgi (y := (b.1 (nI i).toNatClampNeg)) rfl ?_
      refine lv_cgi (y := (b.1 i)) (nn_at b.1 (by omega)) ?_
      refine lv_icmp_ne (tgt := 98) hx hb dX10_day_92 (by decide) (fun c_92 => ?_) (fun c_92 => ?_)
      · have hl28 := (hju1 28 (by decide)).trans h28
        have hl29 := (hju1 29 (by decide)).trans h29
        have hl24 := (hju1 24 (by decide)).trans ((hj 24 (by decide)).trans hnow)
        have hlt : b.2.2.2.2.1 < 20000 := by rw [mCn, if_neg c_92] at hc; omega
        refine lv_aload_n hx hb dX10_day_98 rfl (lv_at hl 1 rfl) ?_
        refine r_get C h 0 rfl (Cn := RX10) (T := TX10) (N := 50) rfl hinX10 20 (by decide) (index := 68) (ref := "ScaleHouseModel") wd2 rfl (v := .ref (ad 20)) rfl dX10_day_99 ?_
        refine lv_aload_n hx hb dX10_day_102 rfl (lv_at hl 1 rfl) ?_
        refine r_get C h 0 rfl (Cn := RX10) (T := TX10) (N := 50) rfl hinX10 28 (by decide) (index := 241) (ref := "ScaleHouseModel") wd3 rfl (v := .int (u1.1 28)) rfl dX10_day_103 ?_
        refine lv_cgi (y := (nI b.2.2.2.2.1)) (by rw [hl28]) ?_
        refine lv_aload_n hx hb dX10_day_106 rfl (lv_at hl 1 rfl) ?_
        refine r_get C h 0 rfl (Cn := RX10) (T := TX10) (N := 50) rfl hinX10 24 (by decide) (index := 202) (ref := "ScaleHouseModel") wd4 rfl (v := .int (u1.1 24)) rfl dX10_day_107 ?_
        refine lv_cgi (y := now) (hl24) ?_
        refine r_iast C h 20 rfl (i := (nI b.2.2.2.2.1)) (vp_in_nI (by omega) (by decide)) dX10_day_110 (fun H locs h => ?_)
        have h : gS G A s (mW G ad u1.1 (va_up (va_up (va_up (va_up F 17 b.1) 20 (upd b.2.1 (nI b.2.2.2.2.1).toNatClampNeg now)) 21 b.2.2.1) 22 b.2.2.2.1) u1.2.1 u1.2.2.1 u1.2.2.2) H locs := h
        rw [show (upd b.2.1 (nI b.2.2.2.2.1).toNatClampNeg now) = (upd b.2.1 b.2.2.2.2.1 now) from nn_up b.2.1 (by omega) _] at h
        have h : gS G A s (mW G ad u1.1 (va_up (va_up (va_up (va_up F 17 b.1) 20 (upd b.2.1 b.2.2.2.2.1 now)) 21 b.2.2.1) 22 b.2.2.2.1) u1.2.1 u1.2.2.1 u1.2.2.2) H locs := h
        refine lv_aload_n hx hb dX10_day_111 rfl (lv_at hl 1 rfl) ?_
        refine r_get C h 0 rfl (Cn := RX10) (T := TX10) (N := 50) rfl hinX10 21 (by decide) (index := 71) (ref := "ScaleHouseModel") wd5 rfl (v := .ref (ad 21)) rfl dX10_day_112 ?_
        refine lv_aload_n hx hb dX10_day_115 rfl (lv_at hl 1 rfl) ?_
        refine r_get C h 0 rfl (Cn := RX10) (T := TX10) (N := 50) rfl hinX10 28 (by decide) (index := 241) (ref := "ScaleHouseModel") wd3 rfl (v := .int (u1.1 28)) rfl dX10_day_116 ?_
        refine lv_cgi (y := (nI b.2.2.2.2.1)) (by rw [hl28]) ?_
        refine lv_iload_n hx hb dX10_day_119 rfl (lv_at hl 3 rfl) ?_
        refine r_iast C h 21 rfl (i := (nI b.2.2.2.2.1)) (vp_in_nI (by omega) (by decide)) dX10_day_120 (fun H locs h => ?_)
        have h : gS G A s (mW G ad u1.1 (va_up (va_up (va_up (va_up F 17 b.1) 20 (upd b.2.1 b.2.2.2.2.1 now)) 21 (upd b.2.2.1 (nI b.2.2.2.2.1).toNatClampNeg (nI i))) 22 b.2.2.2.1) u1.2.1 u1.2.2.1 u1.2.2.2) H locs := h
        rw [show (upd b.2.2.1 (nI b.2.2.2.2.1).toNatClampNeg (nI i)) = (upd b.2.2.1 b.2.2.2.2.1 (nI i)) from nn_up b.2.2.1 (by omega) _] at h
        have h : gS G A s (mW G ad u1.1 (va_up (va_up (va_up (va_up F 17 b.1) 20 (upd b.2.1 b.2.2.2.2.1 now)) 21 (upd b.2.2.1 b.2.2.2.2.1 (nI i))) 22 b.2.2.2.1) u1.2.1 u1.2.2.1 u1.2.2.2) H locs := h
        refine lv_aload_n hx hb dX10_day_121 rfl (lv_at hl 1 rfl) ?_
        refine r_get C h 0 rfl (Cn := RX10) (T := TX10) (N := 50) rfl hinX10 22 (by decide) (index := 74) (ref := "ScaleHouseModel") wd6 rfl (v := .ref (ad 22)) rfl dX10_day_122 ?_
        refine lv_aload_n hx hb dX10_day_125 rfl (lv_at hl 1 rfl) ?_
        refine r_get C h 0 rfl (Cn := RX10) (T := TX10) (N := 50) rfl hinX10 28 (by decide) (index := 241) (ref := "ScaleHouseModel") wd3 rfl (v := .int (u1.1 28)) rfl dX10_day_126 ?_
        refine lv_cgi (y := (nI b.2.2.2.2.1)) (by rw [hl28]) ?_
        refine lv_iload_n hx hb dX10_day_129 rfl (lv_at hl 0 rfl) ?_
        refine lv_aload_n hx hb dX10_day_130 rfl (lv_at hl 1 rfl) ?_
        refine r_get C h 0 rfl (Cn := RX10) (T := TX10) (N := 50) rfl hinX10 17 (by decide) (index := 59) (ref := "ScaleHouseModel") wd1 rfl (v := .ref (ad 17)) rfl dX10_day_131 ?_
        refine lv_iload_n hx hb dX10_day_134 rfl (lv_at hl 3 rfl) ?_
        refine r_iald C h 17 rfl (i := (nI i)) (vp_in_nI (by omega) (by decide)) dX10_day_135 ?_
        refine lv_cgi (y := (b.1 (nI i).toNatClampNeg)) rfl ?_
        refine lv_cgi (y := (b.1 i)) (nn_at b.1 (by omega)) ?_
        refine lv_isub hx hb dX10_day_136 ?_
        refine r_iast C h 22 rfl (i := (nI b.2.2.2.2.1)) (vp_in_nI (by omega) (by decide)) dX10_day_137 (fun H locs h => ?_)
        have h : gS G A s (mW G ad u1.1 (va_up (va_up (va_up (va_up F 17 b.1) 20 (upd b.2.1 b.2.2.2.2.1 now)) 21 (upd b.2.2.1 b.2.2.2.2.1 (nI i))) 22 (upd b.2.2.2.1 (nI b.2.2.2.2.1).toNatClampNeg ((mPay F nl ne L now i) - (b.1 i)))) u1.2.1 u1.2.2.1 u1.2.2.2) H locs := h
        rw [show (upd b.2.2.2.1 (nI b.2.2.2.2.1).toNatClampNeg ((mPay F nl ne L now i) - (b.1 i))) = (upd b.2.2.2.1 b.2.2.2.2.1 (mPay F nl ne L now i - b.1 i)) from nn_up b.2.2.2.1 (by omega) _] at h
        have h : gS G A s (mW G ad u1.1 (va_up (va_up (va_up (va_up F 17 b.1) 20 (upd b.2.1 b.2.2.2.2.1 now)) 21 (upd b.2.2.1 b.2.2.2.2.1 (nI i))) 22 (upd b.2.2.2.1 b.2.2.2.2.1 (mPay F nl ne L now i - b.1 i))) u1.2.1 u1.2.2.1 u1.2.2.2) H locs := h
        refine lv_aload_n hx hb dX10_day_138 rfl (lv_at hl 1 rfl) ?_
        refine lv_dup hx hb dX10_day_139 rfl ?_
        refine r_get C h 0 rfl (Cn := RX10) (T := TX10) (N := 50) rfl hinX10 29 (by decide) (index := 244) (ref := "ScaleHouseModel") wd7 rfl (v := .int (u1.1 29)) rfl dX10_day_140 ?_
        refine lv_cgi (y := b.2.2.2.2.2) (hl29) ?_
        refine lv_iload_n hx hb dX10_day_143 rfl (lv_at hl 0 rfl) ?_
        refine lv_aload_n hx hb dX10_day_144 rfl (lv_at hl 1 rfl) ?_
        refine r_get C h 0 rfl (Cn := RX10) (T := TX10) (N := 50) rfl hinX10 17 (by decide) (index := 59) (ref := "ScaleHouseModel") wd1 rfl (v := .ref (ad 17)) rfl dX10_day_145 ?_
        refine lv_iload_n hx hb dX10_day_148 rfl (lv_at hl 3 rfl) ?_
        refine r_iald C h 17 rfl (i := (nI i)) (vp_in_nI (by omega) (by decide)) dX10_day_149 ?_
        refine lv_cgi (y := (b.1 (nI i).toNatClampNeg)) rfl ?_
        refine lv_cgi (y := (b.1 i)) (nn_at b.1 (by omega)) ?_
        refine lv_isub hx hb dX10_day_150 ?_
        refine lv_iadd hx hb dX10_day_151 ?_
        refine r_put C h 0 rfl (Cn := RX10) (T := TX10) (N := 50) rfl hinX10 tyX10 tyX10_ok nmX10 29 (by decide) (index := 244) (ref := "ScaleHouseModel") wd7 rfl rfl (v := .int (b.2.2.2.2.2 + ((mPay F nl ne L now i) - (b.1 i)))) rfl rfl (show 29 < 50 by decide) dX10_day_152 (fun H locs h => ?_)
        have h : gS G A s (mW G ad (upd u1.1 29 (b.2.2.2.2.2 + ((mPay F nl ne L now i) - (b.1 i)))) (va_up (va_up (va_up (va_up F 17 b.1) 20 (upd b.2.1 b.2.2.2.2.1 now)) 21 (upd b.2.2.1 b.2.2.2.2.1 (nI i))) 22 (upd b.2.2.2.1 b.2.2.2.2.1 (mPay F nl ne L now i - b.1 i))) u1.2.1 u1.2.2.1 u1.2.2.2) H locs := h
        refine lv_aload_n hx hb dX10_day_155 rfl (lv_at hl 1 rfl) ?_
        refine r_get C h 0 rfl (Cn := RX10) (T := TX10) (N := 50) rfl hinX10 17 (by decide) (index := 59) (ref := "ScaleHouseModel") wd1 rfl (v := .ref (ad 17)) rfl dX10_day_156 ?_
        refine lv_iload_n hx hb dX10_day_159 rfl (lv_at hl 3 rfl) ?_
        refine lv_iload_n hx hb dX10_day_160 rfl (lv_at hl 0 rfl) ?_
        refine r_iast C h 17 rfl (i := (nI i)) (vp_in_nI (by omega) (by decide)) dX10_day_161 (fun H locs h => ?_)
        have h : gS G A s (mW G ad (upd u1.1 29 (b.2.2.2.2.2 + ((mPay F nl ne L now i) - (b.1 i)))) (va_up (va_up (va_up (va_up F 17 (upd b.1 (nI i).toNatClampNeg (mPay F nl ne L now i))) 20 (upd b.2.1 b.2.2.2.2.1 now)) 21 (upd b.2.2.1 b.2.2.2.2.1 (nI i))) 22 (upd b.2.2.2.1 b.2.2.2.2.1 (mPay F nl ne L now i - b.1 i))) u1.2.1 u1.2.2.1 u1.2.2.2) H locs := h
        rw [show (upd b.1 (nI i).toNatClampNeg (mPay F nl ne L now i)) = (upd b.1 i (mPay F nl ne L now i)) from nn_up b.1 (by omega) _] at h
        have h : gS G A s (mW G ad (upd u1.1 29 (b.2.2.2.2.2 + ((mPay F nl ne L now i) - (b.1 i)))) (va_up (va_up (va_up (va_up F 17 (upd b.1 i (mPay F nl ne L now i))) 20 (upd b.2.1 b.2.2.2.2.1 now)) 21 (upd b.2.2.1 b.2.2.2.2.1 (nI i))) 22 (upd b.2.2.2.1 b.2.2.2.2.1 (mPay F nl ne L now i - b.1 i))) u1.2.1 u1.2.2.1 u1.2.2.2) H locs := h
        refine lv_aload_n hx hb dX10_day_162 rfl (lv_at hl 1 rfl) ?_
        refine lv_dup hx hb dX10_day_163 rfl ?_
        refine r_get C h 0 rfl (Cn := RX10) (T := TX10) (N := 50) rfl hinX10 28 (by decide) (index := 241) (ref := "ScaleHouseModel") wd3 rfl (v := .int (u1.1 28)) rfl dX10_day_164 ?_
        refine lv_cgi (y := (nI b.2.2.2.2.1)) (by rw [hl28]) ?_
        refine lv_iconst (v := 1) hx hb dX10_day_167 (by decide) ?_
        refine lv_iadd hx hb dX10_day_168 ?_
        refine lv_cgi (y := (nI (b.2.2.2.2.1 + 1))) (nI_1 _) ?_
        refine r_put C h 0 rfl (Cn := RX10) (T := TX10) (N := 50) rfl hinX10 tyX10 tyX10_ok nmX10 28 (by decide) (index := 241) (ref := "ScaleHouseModel") wd3 rfl rfl (v := .int (nI (b.2.2.2.2.1 + 1))) rfl rfl (show 28 < 50 by decide) dX10_day_169 (fun H locs h => ?_)
        have h : gS G A s (mW G ad (upd (upd u1.1 29 (b.2.2.2.2.2 + ((mPay F nl ne L now i) - (b.1 i)))) 28 (nI (b.2.2.2.2.1 + 1))) (va_up (va_up (va_up (va_up F 17 (upd b.1 i (mPay F nl ne L now i))) 20 (upd b.2.1 b.2.2.2.2.1 now)) 21 (upd b.2.2.1 b.2.2.2.2.1 (nI i))) 22 (upd b.2.2.2.1 b.2.2.2.2.1 (mPay F nl ne L now i - b.1 i))) u1.2.1 u1.2.2.1 u1.2.2.2) H locs := h
        refine lv_iinc (v := nI (i + 1)) (lv' := [(2, .int (nI (i + 1))), (3, .int (mPay F nl ne L now i)), (0, .ref (ad 0)), (1, .int mz)]) hx hb dX10_day_172 hl (k := 3) rfl (nI_1 _) (by decide) rfl (fun ls hl => ?_)
        refine lv_goto (tgt := 71) hx hb dX10_day_175 (by decide) ?_
        exact ih (i + 1) (upd b.1 i (mPay F nl ne L now i), upd b.2.1 b.2.2.2.2.1 now, upd b.2.2.1 b.2.2.2.2.1 (nI i), upd b.2.2.2.1 b.2.2.2.2.1 (mPay F nl ne L now i - b.1 i), b.2.2.2.2.1 + 1, b.2.2.2.2.2 + (mPay F nl ne L now i - b.1 i)) (upd (upd u1.1 29 (b.2.2.2.2.2 + ((mPay F nl ne L now i) - (b.1 i)))) 28 (nI (b.2.2.2.2.1 + 1))) u1.2.1 u1.2.2.1 u1.2.2.2 _ _ ls (by omega) (jd_up (jd_up (jd_jk hj hju1) (by decide)) (by decide)) rfl rfl (by show b.2.2.2.2.1 + 1 + mCn _ (upd b.1 i _) r (i + 1) ≤ 20000; rw [mCn_up _ _ _ _ r (i + 1) (by omega)]; rw [mCn, if_neg c_92] at hc; omega) (by rw [← hz, mBk, if_neg c_92]) h (lv_sub hl [2, 3, 0] rfl)
      · refine lv_goto (tgt := 172) hx hb dX10_day_95 (by decide) ?_
        refine lv_iinc (v := nI (i + 1)) (lv' := [(2, .int (nI (i + 1))), (3, .int (mPay F nl ne L now i)), (0, .ref (ad 0)), (1, .int mz)]) hx hb dX10_day_172 hl (k := 3) rfl (nI_1 _) (by decide) rfl (fun ls hl => ?_)
        refine lv_goto (tgt := 71) hx hb dX10_day_175 (by decide) ?_
        exact ih (i + 1) b u1.1 u1.2.1 u1.2.2.1 u1.2.2.2 _ _ ls (by omega) (jd_jk hj hju1) ((hju1 28 (by decide)).trans h28) ((hju1 29 (by decide)).trans h29) (by rw [mCn, if_pos c_92] at hc; omega) (by rw [← hz, mBk, if_pos c_92]) h (lv_sub hl [2, 3, 0] rfl)

def mDay (I : Nat → Int32) (F : Nat → Nat → Int32) (nl ne : Nat) (L : Nat → Nat) (ng ln : Nat) : Int32 × (Nat → Int32) × (Nat → Nat → Int32) :=
  if I 24 = 500 then (-1, upd I 0 0, F)
  else if ln + mCn (mPay F nl ne L (I 24)) (F 17) ng 0 ≤ 20000 then
    (nI (mCn (mPay F nl ne L (I 24)) (F 17) ng 0),
      upd (upd (upd (upd I 0 0) 28 (nI (mBk (mPay F nl ne L (I 24)) (I 24) ng 0 (F 17, F 20, F 21, F 22, ln, I 29)).2.2.2.2.1)) 29 (mBk (mPay F nl ne L (I 24)) (I 24) ng 0 (F 17, F 20, F 21, F 22, ln, I 29)).2.2.2.2.2) 24 (I 24 + 1),
      va_up (va_up (va_up (va_up F 17 (mBk (mPay F nl ne L (I 24)) (I 24) ng 0 (F 17, F 20, F 21, F 22, ln, I 29)).1) 20 (mBk (mPay F nl ne L (I 24)) (I 24) ng 0 (F 17, F 20, F 21, F 22, ln, I 29)).2.1) 21 (mBk (mPay F nl ne L (I 24)) (I 24) ng 0 (F 17, F 20, F 21, F 22, ln, I 29)).2.2.1) 22 (mBk (mPay F nl ne L (I 24)) (I 24) ng 0 (F 17, F 20, F 21, F 22, ln, I 29)).2.2.2.1)
  else (-1, upd I 0 0, F)
theorem jd_28 {I J : Nat → Int32} {x y : Int32} (h : jd I J) (h1 : J 28 = x) (h2 : J 29 = y) : jk (upd (upd I 28 x) 29 y) J := by
  intro k hk
  unfold upd
  by_cases e : k = 29
  · rw [if_pos e, e, h2]
  · rw [if_neg e]
    by_cases e2 : k = 28
    · rw [if_pos e2, e2, h1]
    · rw [if_neg e2]
      exact h k (fun z => z.elim e2 (fun z => z.elim e hk))

set_option maxHeartbeats 4000000 in
set_option maxRecDepth 100000 in
theorem m_day (l : Launch) (G : gG) (ad : Nat → Nat) (I : Nat → Int32) (F : Nat → Nat → Int32) (rw : Nat) (gd gl : Int64) (nl ne : Nat) (L : Nat → Nat) (hgd : mGd I F nl ne L) (ng ln : Nat) (hng : I 27 = nI ng) (hng2 : ng ≤ 100) (how : mOw F ng) (hln : I 28 = nI ln) (hln2 : ln ≤ 20000) : cM l yX10_day wsX10_day 91 1100 (0) (0) G [.ref (ad 0)] (mW G ad I F rw gd gl) (qI G (S := (Nat → Int32) × Nat × Int64 × Int64) (fun r u => r = (mDay I F nl ne L ng ln).1 ∧ jk (mDay I F nl ne L ng ln).2.1 u.1) (fun u => mW G ad u.1 (mDay I F nl ne L ng ln).2.2 u.2.1 u.2.2.1 u.2.2.2)) := by
  refine o_M (cc := cX10_day) (maxL := 4) (ret := (some .int)) (own := RX10) (by decide +kernel) rfl rfl (Nat.le_of_ble_eq_true rfl) ?_
  intro p e s m below meth c A ls H locs hA C h hr hlk hnm hl
  have hx := C.1.1.1
  have hb := C.1.1.2.1
  have hl : lv_has ls 4 [(0, .ref (ad 0))] := hl
  have wd0 : Cond.fieldLink RX10 106 "ScaleHouseModel" "thrown" "I" ∈ wsX10_day := by decide +kernel
  have hinX10 : ∀ w ∈ wsX100, w ∈ wsX10_day := fun _ h => List.mem_cons_of_mem _ (List.mem_append_right _ h)
  have wd1 : Cond.fieldLink RX10 202 "ScaleHouseModel" "now" "I" ∈ wsX10_day := by decide +kernel
  have wd2 : Cond.fieldLink RX10 241 "ScaleHouseModel" "lines" "I" ∈ wsX10_day := by decide +kernel
  refine lv_aload_n hx hb dX10_day_0 rfl (lv_at hl 0 rfl) ?_
  refine lv_iconst (v := 0) hx hb dX10_day_1 (by decide) ?_
  refine r_put C h 0 rfl (Cn := RX10) (T := TX10) (N := 50) rfl hinX10 tyX10 tyX10_ok nmX10 0 (by decide) (index := 106) (ref := "ScaleHouseModel") wd0 rfl rfl (v := .int 0) rfl rfl (show 0 < 50 by decide) dX10_day_2 (fun H locs h => ?_)
  have h : gS G A s (mW G ad (upd I 0 0) F rw gd gl) H locs := h
  refine lv_iconst (v := 0) hx hb dX10_day_5 (by decide) ?_
  refine lv_istore_n (lv' := [(1, .int 0), (0, .ref (ad 0))]) hx hb dX10_day_6 rfl hl (by decide) rfl (fun ls hl => ?_)
  refine lv_iconst (v := 0) hx hb dX10_day_7 (by decide) ?_
  refine lv_istore_n (lv' := [(2, .int 0), (1, .int 0), (0, .ref (ad 0))]) hx hb dX10_day_8 rfl hl (by decide) rfl (fun ls hl => ?_)
  refine lp_X10_day1 C ad F (upd I 0 0) nl ne L hgd ng hng hng2 (by decide) (by decide) how (I 24) rfl (mCn (mPay F nl ne L (I 24)) (F 17) ng 0) (fun I9 rw9 gd9 gl9 H locs ls hj hk0 h hl => ?_) ng 0 0 _ _ _ _ _ _ ls (by omega) (fun _ _ => rfl) (jk_rf _) (by rw [Nat.zero_add]) h (lv_sub hl [2, 1, 0] rfl)
  refine lv_aload_n hx hb dX10_day_45 rfl (lv_at hl 0 rfl) ?_
  refine r_get C h 0 rfl (Cn := RX10) (T := TX10) (N := 50) rfl hinX10 24 (by decide) (index := 202) (ref := "ScaleHouseModel") wd1 rfl (v := .int (I9 24)) rfl dX10_day_46 ?_
  refine lv_cgi (y := (I 24)) (hk0 24 (by decide)) ?_
  refine lv_sipush (v := 500) hx hb dX10_day_49 (by decide) ?_
  refine lv_icmp_eq (tgt := 67) hx hb dX10_day_52 (by decide) (fun c_52 => ?_) (fun c_52 => ?_)
  · have d52 := c_52
    refine lv_iconst (v := -1) hx hb dX10_day_67 (by decide) ?_
    have hs : mDay I F nl ne L ng ln = (-1, upd I 0 0, F) := by simp only [mDay, if_pos d52]
    exact r_iret C h hr hlk (Nat.zero_le _) (Nat.zero_le _) (I9, rw9, gd9, gl9) (by rw [hs]; exact ⟨rfl, hk0⟩) (by rw [hs]) dX10_day_68
  · have d52 := c_52
    have hcl := mCn_le (mPay F nl ne L (I 24)) (F 17) ng 0
    refine lv_aload_n hx hb dX10_day_55 rfl (lv_at hl 0 rfl) ?_
    refine r_get C h 0 rfl (Cn := RX10) (T := TX10) (N := 50) rfl hinX10 28 (by decide) (index := 241) (ref := "ScaleHouseModel") wd2 rfl (v := .int (I9 28)) rfl dX10_day_56 ?_
    refine lv_cgi (y := (nI ln)) ((hk0 28 (by decide)).trans hln) ?_
    refine lv_iload_n hx hb dX10_day_59 rfl (lv_at hl 1 rfl) ?_
    refine lv_iadd hx hb dX10_day_60 ?_
    refine lv_cgi (y := (nI (ln + (mCn (mPay F nl ne L (I 24)) (F 17) ng 0)))) (by rw [nI_add]) ?_
    refine lv_sipush (v := 20000) hx hb dX10_day_61 (by decide) ?_
    refine lv_icmp_le (tgt := 69) hx hb dX10_day_64 (by decide) (fun c_64 => ?_) (fun c_64 => ?_)
    · have d64 : ln + (mCn (mPay F nl ne L (I 24)) (F 17) ng 0) ≤ 20000 := (nI_leI (b := 20000) (by omega) (by decide)).mp c_64
      refine lv_iconst (v := 0) hx hb dX10_day_69 (by decide) ?_
      refine lv_istore_n (lv' := [(2, .int 0), (0, .ref (ad 0)), (1, .int (nI (mCn (mPay F nl ne L (I 24)) (F 17) ng 0)))]) hx hb dX10_day_70 rfl hl (by decide) rfl (fun ls hl => ?_)
      refine lp_X10_day2 C ad F (upd I 0 0) nl ne L hgd ng hng hng2 (by decide) (by decide) how (I 24) rfl (nI (mCn (mPay F nl ne L (I 24)) (F 17) ng 0)) (mBk (mPay F nl ne L (I 24)) (I 24) ng 0 (F 17, F 20, F 21, F 22, ln, I 29)) (fun I8 rw8 gd8 gl8 H locs ls hj2 h28 h29 h hl => ?_) ng 0 (F 17, F 20, F 21, F 22, ln, I 29) _ _ _ _ _ _ ls (by omega) hj ((hk0 28 (by decide)).trans hln) (hk0 29 (by decide)) (d64) rfl h (lv_sub hl [1, 2, 0] rfl)
      refine lv_aload_n hx hb dX10_day_178 rfl (lv_at hl 0 rfl) ?_
      refine lv_dup hx hb dX10_day_179 rfl ?_
      refine r_get C h 0 rfl (Cn := RX10) (T := TX10) (N := 50) rfl hinX10 24 (by decide) (index := 202) (ref := "ScaleHouseModel") wd1 rfl (v := .int (I8 24)) rfl dX10_day_180 ?_
      refine lv_cgi (y := (I 24)) (hj2 24 (by decide)) ?_
      refine lv_iconst (v := 1) hx hb dX10_day_183 (by decide) ?_
      refine lv_iadd hx hb dX10_day_184 ?_
      refine r_put C h 0 rfl (Cn := RX10) (T := TX10) (N := 50) rfl hinX10 tyX10 tyX10_ok nmX10 24 (by decide) (index := 202) (ref := "ScaleHouseModel") wd1 rfl rfl (v := .int ((I 24) + 1)) rfl rfl (show 24 < 50 by decide) dX10_day_185 (fun H locs h => ?_)
      have h : gS G A s (mW G ad (upd I8 24 ((I 24) + 1)) (va_up (va_up (va_up (va_up F 17 ((mBk (mPay F nl ne L (I 24)) (I 24) ng 0 (F 17, F 20, F 21, F 22, ln, I 29)).1)) 20 ((mBk (mPay F nl ne L (I 24)) (I 24) ng 0 (F 17, F 20, F 21, F 22, ln, I 29)).2.1)) 21 ((mBk (mPay F nl ne L (I 24)) (I 24) ng 0 (F 17, F 20, F 21, F 22, ln, I 29)).2.2.1)) 22 ((mBk (mPay F nl ne L (I 24)) (I 24) ng 0 (F 17, F 20, F 21, F 22, ln, I 29)).2.2.2.1)) rw8 gd8 gl8) H locs := h
      refine lv_iload_n hx hb dX10_day_188 rfl (lv_at hl 1 rfl) ?_
      have hs1 : (mDay I F nl ne L ng ln).1 = nI (mCn (mPay F nl ne L (I 24)) (F 17) ng 0) := by simp only [mDay, if_neg d52, if_pos d64]
      have hs2 : (mDay I F nl ne L ng ln).2.1 = upd (upd (upd (upd I 0 0) 28 (nI (mBk (mPay F nl ne L (I 24)) (I 24) ng 0 (F 17, F 20, F 21, F 22, ln, I 29)).2.2.2.2.1)) 29 (mBk (mPay F nl ne L (I 24)) (I 24) ng 0 (F 17, F 20, F 21, F 22, ln, I 29)).2.2.2.2.2) 24 (I 24 + 1) := by simp only [mDay, if_neg d52, if_pos d64]
      have hs3 : (mDay I F nl ne L ng ln).2.2 = (va_up (va_up (va_up (va_up F 17 ((mBk (mPay F nl ne L (I 24)) (I 24) ng 0 (F 17, F 20, F 21, F 22, ln, I 29)).1)) 20 ((mBk (mPay F nl ne L (I 24)) (I 24) ng 0 (F 17, F 20, F 21, F 22, ln, I 29)).2.1)) 21 ((mBk (mPay F nl ne L (I 24)) (I 24) ng 0 (F 17, F 20, F 21, F 22, ln, I 29)).2.2.1)) 22 ((mBk (mPay F nl ne L (I 24)) (I 24) ng 0 (F 17, F 20, F 21, F 22, ln, I 29)).2.2.2.1)) := by simp only [mDay, if_neg d52, if_pos d64]
      exact r_iret C h hr hlk (Nat.zero_le _) (Nat.zero_le _) ((upd I8 24 ((I 24) + 1)), rw8, gd8, gl8) (⟨by rw [hs1], by rw [hs2]; exact jk_cg (jd_28 hj2 h28 h29)⟩) (by rw [hs3]) dX10_day_189
    · have d64 : ¬ ln + (mCn (mPay F nl ne L (I 24)) (F 17) ng 0) ≤ 20000 := fun z => c_64 (nI_le (b := 20000) z (by decide))
      refine lv_iconst (v := -1) hx hb dX10_day_67 (by decide) ?_
      have hs : mDay I F nl ne L ng ln = (-1, upd I 0 0, F) := by simp only [mDay, if_neg d52, if_neg d64]
      exact r_iret C h hr hlk (Nat.zero_le _) (Nat.zero_le _) (I9, rw9, gd9, gl9) (by rw [hs]; exact ⟨rfl, hk0⟩) (by rw [hs]) dX10_day_68
