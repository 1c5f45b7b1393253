/-! ===== ScaleHouseModel: its world, and the methods without loops ===== -/
abbrev mW (G : gG) (ad : Nat → Nat) (I : Nat → Int32) (F : Nat → Nat → Int32) (rw : Nat) (gd : Int64) (gl : Int64) : va_W := [((ad 0), .inr (10, [.int (I 0), .ref (ad 1), .ref (ad 2), .ref (ad 3), .ref (ad 4), .ref (ad 5), .ref (ad 6), .ref (ad 7), .ref (ad 8), .ref (ad 9), .ref (ad 10), .ref (ad 11), .ref (ad 12), .ref (ad 13), .ref (ad 14), .ref (ad 15), .ref (ad 16), .ref (ad 17), .ref (ad 18), .ref (ad 19), .ref (ad 20), .ref (ad 21), .ref (ad 22), .int (I 23), .int (I 24), .int (I 25), .int (I 26), .int (I 27), .int (I 28), .int (I 29), .ref rw, .int (I 31), .int (I 32), .int (I 33), .int (I 34), .int (I 35), .long gd, .long gl, .ref (ad 38), .ref (ad 39), .ref (ad 40), .ref (ad 41), .ref (ad 42), .ref (ad 43), .int (I 44), .int (I 45), .int (I 46), .int (I 47), .int (I 48), .int (I 49)])), ((ad 1), .inl (G.2.2 0, 120, .inl (F 1))), ((ad 2), .inl (G.2.2 0, 2400, .inl (F 2))), ((ad 3), .inl (G.2.2 1, 20, .inl (F 3))), ((ad 4), .inl (G.2.2 1, 20, .inl (F 4))), ((ad 5), .inl (G.2.2 1, 20, .inl (F 5))), ((ad 6), .inl (G.2.2 1, 60, .inl (F 6))), ((ad 7), .inl (G.2.2 1, 60, .inl (F 7))), ((ad 8), .inl (G.2.2 1, 60, .inl (F 8))), ((ad 9), .inl (G.2.2 1, 60, .inl (F 9))), ((ad 10), .inl (G.2.2 1, 100, .inl (F 10))), ((ad 11), .inl (G.2.2 1, 100, .inl (F 11))), ((ad 12), .inl (G.2.2 1, 100, .inl (F 12))), ((ad 13), .inl (G.2.2 1, 100, .inl (F 13))), ((ad 14), .inl (G.2.2 1, 100, .inl (F 14))), ((ad 15), .inl (G.2.2 1, 100, .inl (F 15))), ((ad 16), .inl (G.2.2 1, 100, .inl (F 16))), ((ad 17), .inl (G.2.2 1, 100, .inl (F 17))), ((ad 18), .inl (G.2.2 1, 100, .inl (F 18))), ((ad 19), .inl (G.2.2 1, 6, .inl (F 19))), ((ad 20), .inl (G.2.2 1, 20000, .inl (F 20))), ((ad 21), .inl (G.2.2 1, 20000, .inl (F 21))), ((ad 22), .inl (G.2.2 1, 20000, .inl (F 22))), ((ad 38), .inl (G.2.2 1, 40, .inl (F 38))), ((ad 39), .inl (G.2.2 1, 40, .inl (F 39))), ((ad 40), .inl (G.2.2 1, 2, .inl (F 40))), ((ad 41), .inl (G.2.2 1, 20, .inl (F 41))), ((ad 42), .inl (G.2.2 3, 20, .inl (F 42))), ((ad 43), .inl (G.2.2 3, 20, .inl (F 43)))]
def mIn (v a b : Int32) : Int32 :=
  if v < a then 0
  else if b < v then 0
    else 1
set_option maxHeartbeats 4000000 in
set_option maxRecDepth 100000 in
theorem m_isIn (l : Launch) (G : gG) (v a b : Int32) : cM l yX10_isIn wsX10_isIn 0 0 (0) (0) G [.int v, .int a, .int b] ([]) (qI G (S := Unit) (fun r _ => r = (mIn v a b)) (fun _ => [])) := by
  refine o_M (cc := cX10_isIn) (maxL := 3) (ret := (some .boolean)) (own := RX10) (by decide +kernel) rfl rfl (Nat.le_of_ble_eq_true rfl) ?_
  intro p e s m below meth c A ls H locs hA C h hr hlk hnm hl
  have hx := C.1.1.1
  have hb := C.1.1.2.1
  have hl : lv_has ls 3 [(0, .int v), (1, .int a), (2, .int b)] := hl
  refine lv_iload_n hx hb dX10_isIn_0 rfl (lv_at hl 0 rfl) ?_
  refine lv_iload_n hx hb dX10_isIn_1 rfl (lv_at hl 1 rfl) ?_
  refine lv_icmp_lt (tgt := 14) hx hb dX10_isIn_2 (by decide) (fun c_2 => ?_) (fun c_2 => ?_)
  · refine lv_iconst (v := 0) hx hb dX10_isIn_14 (by decide) ?_
    exact r_zret C h hr hlk (Nat.zero_le _) (Nat.zero_le _) (Or.inl rfl) () (by simp only [mIn, if_pos c_2]) (rfl) dX10_isIn_15
  · refine lv_iload_n hx hb dX10_isIn_5 rfl (lv_at hl 0 rfl) ?_
    refine lv_iload_n hx hb dX10_isIn_6 rfl (lv_at hl 2 rfl) ?_
    refine lv_icmp_gt (tgt := 14) hx hb dX10_isIn_7 (by decide) (fun c_7 => ?_) (fun c_7 => ?_)
    · refine lv_iconst (v := 0) hx hb dX10_isIn_14 (by decide) ?_
      exact r_zret C h hr hlk (Nat.zero_le _) (Nat.zero_le _) (Or.inl rfl) () (by simp only [mIn, if_neg c_2, if_pos c_7]) (rfl) dX10_isIn_15
    · refine lv_iconst (v := 1) hx hb dX10_isIn_10 (by decide) ?_
      refine lv_goto (tgt := 15) hx hb dX10_isIn_11 (by decide) ?_
      exact r_zret C h hr hlk (Nat.zero_le _) (Nat.zero_le _) (Or.inr rfl) () (by simp only [mIn, if_neg c_2, if_neg c_7]) (rfl) dX10_isIn_15

theorem mIn_01 (v a b : Int32) : mIn v a b = 0 ∨ mIn v a b = 1 := by
  unfold mIn
  repeat' split
  all_goals first | exact Or.inl rfl | exact Or.inr rfl
theorem mIn_iff (v a b : Int32) : mIn v a b = 0 ↔ ¬ (a ≤ v ∧ v ≤ b) := by
  unfold mIn
  by_cases h1 : v < a
  · rw [if_pos h1]
    exact ⟨fun _ z => absurd h1 (Int32.not_lt.mpr z.1), fun _ => rfl⟩
  · rw [if_neg h1]
    by_cases h2 : b < v
    · rw [if_pos h2]
      exact ⟨fun _ z => absurd h2 (Int32.not_lt.mpr z.2), fun _ => rfl⟩
    · rw [if_neg h2]
      exact ⟨fun z => absurd z (by decide), fun z => absurd ⟨Int32.not_lt.mp h1, Int32.not_lt.mp h2⟩ z⟩
theorem mIn_in {v b : Int32} {n : Nat} (h : ¬ mIn v 0 b = 0) (hb : b.toInt < (n : Int)) : vp_in v n := by
  have h1 := Decidable.not_not.mp (fun z => h ((mIn_iff v 0 b).mpr z))
  rw [vp_in_iff]
  have h2 := (fa_le 0 v).mp h1.1
  have h3 := (fa_le v b).mp h1.2
  exact ⟨h2, by omega⟩
def mThrown (I : Nat → Int32) : Int32 :=
  (I 0)
set_option maxHeartbeats 4000000 in
set_option maxRecDepth 100000 in
theorem m_thrown (l : Launch) (G : gG) (ad : Nat → Nat) (I : Nat → Int32) (F : Nat → Nat → Int32) (rw : Nat) (gd gl : Int64) : cM l yX10_thrown wsX10_thrown 0 0 (0) (0) G [.ref (ad 0)] (mW G ad I F rw gd gl) (qI G (S := Unit) (fun r _ => r = (mThrown I)) (fun _ => mW G ad I F rw gd gl)) := by
  refine o_M (cc := cX10_thrown) (maxL := 1) (ret := (some .int)) (own := RX10) (by decide +kernel) rfl rfl (Nat.le_of_ble_eq_true rfl) ?_
  intro p e s m below meth c A ls H locs hA C h hr hlk hnm hl
  have hx := C.1.1.1
  have hb := C.1.1.2.1
  have hl : lv_has ls 1 [(0, .ref (ad 0))] := hl
  have wd0 : Cond.fieldLink RX10 106 "ScaleHouseModel" "thrown" "I" ∈ wsX10_thrown := by decide +kernel
  have hinX10 : ∀ w ∈ wsX100, w ∈ wsX10_thrown := fun _ h => List.mem_cons_of_mem _ (List.mem_append_right _ h)
  refine lv_aload_n hx hb dX10_thrown_0 rfl (lv_at hl 0 rfl) ?_
  refine r_get C h 0 rfl (Cn := RX10) (T := TX10) (N := 50) rfl hinX10 0 (by decide) (index := 106) (ref := "ScaleHouseModel") wd0 rfl (v := .int (I 0)) rfl dX10_thrown_1 ?_
  exact r_iret C h hr hlk (Nat.zero_le _) (Nat.zero_le _) () (by simp only [mThrown]) (rfl) dX10_thrown_4

def mEnd (I : Nat → Int32) (n : Int32) : Int32 × (Nat → Int32) :=
  if n < 0 then (0, (upd I 0 0))
  else if n ≤ (I 23) then (1, (upd (upd I 0 0) 23 n))
    else (0, (upd I 0 0))
set_option maxHeartbeats 4000000 in
set_option maxRecDepth 100000 in
theorem m_end (l : Launch) (G : gG) (ad : Nat → Nat) (I : Nat → Int32) (F : Nat → Nat → Int32) (rw : Nat) (gd gl : Int64) (n : Int32) : cM l yX10_end wsX10_end 0 0 (0) (0) G [.ref (ad 0), .int n] (mW G ad I F rw gd gl) (qI G (S := Unit) (fun r _ => r = (mEnd I n).1) (fun _ => mW G ad ((mEnd I n).2) F rw gd gl)) := by
  refine o_M (cc := cX10_end) (maxL := 2) (ret := (some .boolean)) (own := RX10) (by decide +kernel) rfl rfl (Nat.le_of_ble_eq_true rfl) ?_
  intro p e s m below meth c A ls H locs hA C h hr hlk hnm hl
  have hx := C.1.1.1
  have hb := C.1.1.2.1
  have hl : lv_has ls 2 [(0, .ref (ad 0)), (1, .int n)] := hl
  have wd0 : Cond.fieldLink RX10 106 "ScaleHouseModel" "thrown" "I" ∈ wsX10_end := by decide +kernel
  have hinX10 : ∀ w ∈ wsX100, w ∈ wsX10_end := fun _ h => List.mem_cons_of_mem _ (List.mem_append_right _ h)
  have wd1 : Cond.fieldLink RX10 109 "ScaleHouseModel" "length" "I" ∈ wsX10_end := by decide +kernel
  refine lv_aload_n hx hb dX10_end_0 rfl (lv_at hl 0 rfl) ?_
  refine lv_iconst (v := 0) hx hb dX10_end_1 (by decide) ?_
  refine r_put C h 0 rfl (Cn := RX10) (T := TX10) (N := 50) rfl hinX10 tyX10 tyX10_ok nmX10 0 (by decide) (index := 106) (ref := "ScaleHouseModel") wd0 rfl rfl (v := .int 0) rfl rfl (show 0 < 50 by decide) dX10_end_2 (fun H locs h => ?_)
  have h : gS G A s (mW G ad (upd I 0 0) F rw gd gl) H locs := h
  refine lv_iload_n hx hb dX10_end_5 rfl (lv_at hl 1 rfl) ?_
  refine lv_if_lt (tgt := 17) hx hb dX10_end_6 (by decide) (fun c_6 => ?_) (fun c_6 => ?_)
  · refine lv_iconst (v := 0) hx hb dX10_end_17 (by decide) ?_
    exact r_zret C h hr hlk (Nat.zero_le _) (Nat.zero_le _) (Or.inl rfl) () (by simp only [mEnd, if_pos c_6]) (by simp only [mEnd, if_pos c_6]) dX10_end_18
  · refine lv_iload_n hx hb dX10_end_9 rfl (lv_at hl 1 rfl) ?_
    refine lv_aload_n hx hb dX10_end_10 rfl (lv_at hl 0 rfl) ?_
    refine r_get C h 0 rfl (Cn := RX10) (T := TX10) (N := 50) rfl hinX10 23 (by decide) (index := 109) (ref := "ScaleHouseModel") wd1 rfl (v := .int (I 23)) rfl dX10_end_11 ?_
    refine lv_icmp_le (tgt := 19) hx hb dX10_end_14 (by decide) (fun c_14 => ?_) (fun c_14 => ?_)
    · refine lv_aload_n hx hb dX10_end_19 rfl (lv_at hl 0 rfl) ?_
      refine lv_iload_n hx hb dX10_end_20 rfl (lv_at hl 1 rfl) ?_
      refine r_put C h 0 rfl (Cn := RX10) (T := TX10) (N := 50) rfl hinX10 tyX10 tyX10_ok nmX10 23 (by decide) (index := 109) (ref := "ScaleHouseModel") wd1 rfl rfl (v := .int n) rfl rfl (show 23 < 50 by decide) dX10_end_21 (fun H locs h => ?_)
      have h : gS G A s (mW G ad (upd (upd I 0 0) 23 n) F rw gd gl) H locs := h
      refine lv_iconst (v := 1) hx hb dX10_end_24 (by decide) ?_
      exact r_zret C h hr hlk (Nat.zero_le _) (Nat.zero_le _) (Or.inr rfl) () (by simp only [mEnd, if_neg c_6, if_pos c_14]) (by simp only [mEnd, if_neg c_6, if_pos c_14]) dX10_end_25
    · refine lv_iconst (v := 0) hx hb dX10_end_17 (by decide) ?_
      exact r_zret C h hr hlk (Nat.zero_le _) (Nat.zero_le _) (Or.inl rfl) () (by simp only [mEnd, if_neg c_6, if_neg c_14]) (by simp only [mEnd, if_neg c_6, if_neg c_14]) dX10_end_18

def mLater (d : Int32) : Int32 :=
  (mIn d 0 500)
set_option maxHeartbeats 4000000 in
set_option maxRecDepth 100000 in
theorem m_isLaterDay (l : Launch) (G : gG) (d : Int32) : cM l yX10_isLaterDay wsX10_isLaterDay 1 25 (0) (0) G [.int d] ([]) (qI G (S := Unit) (fun r _ => r = (mLater d)) (fun _ => [])) := by
  refine o_M (cc := cX10_isLaterDay) (maxL := 1) (ret := (some .boolean)) (own := RX10) (by decide +kernel) rfl rfl (Nat.le_of_ble_eq_true rfl) ?_
  intro p e s m below meth c A ls H locs hA C h hr hlk hnm hl
  have hx := C.1.1.1
  have hb := C.1.1.2.1
  have hl : lv_has ls 1 [(0, .int d)] := hl
  refine lv_iload_n hx hb dX10_isLaterDay_0 rfl (lv_at hl 0 rfl) ?_
  refine lv_iconst (v := 0) hx hb dX10_isLaterDay_1 (by decide) ?_
  refine lv_sipush (v := 500) hx hb dX10_isLaterDay_2 (by decide) ?_
  have hp : List.Perm ([] : va_W) ([] ++ ([])) := List.Perm.refl _
  refine k_i C h hp (r_runS C h hp (As := [.int d, .int 0, .int 500]) (rest := []) (m_isIn l G d 0 500) (va_cwS 3 C.1.1.2.2.2.2 gX10_isLaterDay_X10_isIn rfl rfl rfl (by decide +kernel) ⟨Nat.le_of_ble_eq_true rfl, Nat.le_of_ble_eq_true rfl⟩) rfl hl.1 (Nat.le_of_ble_eq_true rfl) dX10_isLaterDay_5 ⟨Nat.le_of_ble_eq_true rfl, Nat.le_of_ble_eq_true rfl⟩) (fun r_1 u_2 H locs hw_3 h => ?_)
  have h : gS G A s ([]) H locs := h
  refine W.widen (k := 0) (n := 0) (Nat.le_of_ble_eq_true rfl) (Nat.le_of_ble_eq_true rfl) ?_
  subst hw_3
  exact r_zret C h hr hlk (Nat.zero_le _) (Nat.zero_le _) (mIn_01 _ _ _) () (by simp only [mLater]) (rfl) dX10_isLaterDay_8

def mKnown (I : Nat → Int32) (q : Int32) : Int32 :=
  (mIn q 0 (I 24))
set_option maxHeartbeats 4000000 in
set_option maxRecDepth 100000 in
theorem m_isKnown (l : Launch) (G : gG) (ad : Nat → Nat) (I : Nat → Int32) (F : Nat → Nat → Int32) (rw : Nat) (gd gl : Int64) (q : Int32) : cM l yX10_isKnown wsX10_isKnown 1 25 (0) (0) G [.ref (ad 0), .int q] (mW G ad I F rw gd gl) (qI G (S := Unit) (fun r _ => r = (mKnown I q)) (fun _ => mW G ad I F rw gd gl)) := by
  refine o_M (cc := cX10_isKnown) (maxL := 2) (ret := (some .boolean)) (own := RX10) (by decide +kernel) rfl rfl (Nat.le_of_ble_eq_true rfl) ?_
  intro p e s m below meth c A ls H locs hA C h hr hlk hnm hl
  have hx := C.1.1.1
  have hb := C.1.1.2.1
  have hl : lv_has ls 2 [(0, .ref (ad 0)), (1, .int q)] := hl
  have wd0 : Cond.fieldLink RX10 202 "ScaleHouseModel" "now" "I" ∈ wsX10_isKnown := by decide +kernel
  have hinX10 : ∀ w ∈ wsX100, w ∈ wsX10_isKnown := fun _ h => List.mem_cons_of_mem _ (List.mem_append_right _ h)
  refine lv_iload_n hx hb dX10_isKnown_0 rfl (lv_at hl 1 rfl) ?_
  refine lv_iconst (v := 0) hx hb dX10_isKnown_1 (by decide) ?_
  refine lv_aload_n hx hb dX10_isKnown_2 rfl (lv_at hl 0 rfl) ?_
  refine r_get C h 0 rfl (Cn := RX10) (T := TX10) (N := 50) rfl hinX10 24 (by decide) (index := 202) (ref := "ScaleHouseModel") wd0 rfl (v := .int (I 24)) rfl dX10_isKnown_3 ?_
  have hp : List.Perm (mW G ad I F rw gd gl : va_W) ([] ++ ([((ad 0), .inr (10, [.int (I 0), .ref (ad 1), .ref (ad 2), .ref (ad 3), .ref (ad 4), .ref (ad 5), .ref (ad 6), .ref (ad 7), .ref (ad 8), .ref (ad 9), .ref (ad 10), .ref (ad 11), .ref (ad 12), .ref (ad 13), .ref (ad 14), .ref (ad 15), .ref (ad 16), .ref (ad 17), .ref (ad 18), .ref (ad 19), .ref (ad 20), .ref (ad 21), .ref (ad 22), .int (I 23), .int (I 24), .int (I 25), .int (I 26), .int (I 27), .int (I 28), .int (I 29), .ref rw, .int (I 31), .int (I 32), .int (I 33), .int (I 34), .int (I 35), .long gd, .long gl, .ref (ad 38), .ref (ad 39), .ref (ad 40), .ref (ad 41), .ref (ad 42), .ref (ad 43), .int (I 44), .int (I 45), .int (I 46), .int (I 47), .int (I 48), .int (I 49)])), ((ad 1), .inl (G.2.2 0, 120, .inl (F 1))), ((ad 2), .inl (G.2.2 0, 2400, .inl (F 2))), ((ad 3), .inl (G.2.2 1, 20, .inl (F 3))), ((ad 4), .inl (G.2.2 1, 20, .inl (F 4))), ((ad 5), .inl (G.2.2 1, 20, .inl (F 5))), ((ad 6), .inl (G.2.2 1, 60, .inl (F 6))), ((ad 7), .inl (G.2.2 1, 60, .inl (F 7))), ((ad 8), .inl (G.2.2 1, 60, .inl (F 8))), ((ad 9), .inl (G.2.2 1, 60, .inl (F 9))), ((ad 10), .inl (G.2.2 1, 100, .inl (F 10))), ((ad 11), .inl (G.2.2 1, 100, .inl (F 11))), ((ad 12), .inl (G.2.2 1, 100, .inl (F 12))), ((ad 13), .inl (G.2.2 1, 100, .inl (F 13))), ((ad 14), .inl (G.2.2 1, 100, .inl (F 14))), ((ad 15), .inl (G.2.2 1, 100, .inl (F 15))), ((ad 16), .inl (G.2.2 1, 100, .inl (F 16))), ((ad 17), .inl (G.2.2 1, 100, .inl (F 17))), ((ad 18), .inl (G.2.2 1, 100, .inl (F 18))), ((ad 19), .inl (G.2.2 1, 6, .inl (F 19))), ((ad 20), .inl (G.2.2 1, 20000, .inl (F 20))), ((ad 21), .inl (G.2.2 1, 20000, .inl (F 21))), ((ad 22), .inl (G.2.2 1, 20000, .inl (F 22))), ((ad 38), .inl (G.2.2 1, 40, .inl (F 38))), ((ad 39), .inl (G.2.2 1, 40, .inl (F 39))), ((ad 40), .inl (G.2.2 1, 2, .inl (F 40))), ((ad 41), .inl (G.2.2 1, 20, .inl (F 41))), ((ad 42), .inl (G.2.2 3, 20, .inl (F 42))), ((ad 43), .inl (G.2.2 3, 20, .inl (F 43)))])) := List.Perm.refl _
  refine k_i C h hp (r_runS C h hp (As := [.int q, .int 0, .int (I 24)]) (rest := []) (m_isIn l G q 0 (I 24)) (va_cwS 3 C.1.1.2.2.2.2 gX10_isKnown_X10_isIn rfl rfl rfl (by decide +kernel) ⟨Nat.le_of_ble_eq_true rfl, Nat.le_of_ble_eq_true rfl⟩) rfl hl.1 (Nat.le_of_ble_eq_true rfl) dX10_isKnown_6 ⟨Nat.le_of_ble_eq_true rfl, Nat.le_of_ble_eq_true rfl⟩) (fun r_1 u_2 H locs hw_3 h => ?_)
  have h : gS G A s (mW G ad I F rw gd gl) H locs := h
  refine W.widen (k := 0) (n := 0) (Nat.le_of_ble_eq_true rfl) (Nat.le_of_ble_eq_true rfl) ?_
  subst hw_3
  exact r_zret C h hr hlk (Nat.zero_le _) (Nat.zero_le _) (mIn_01 _ _ _) () (by simp only [mKnown]) (rfl) dX10_isKnown_9

def mIsLog (I : Nat → Int32) (x : Int32) : Int32 :=
  if x < 0 then 0
  else if (I 27) ≤ x then 0
    else 1
set_option maxHeartbeats 4000000 in
set_option maxRecDepth 100000 in
theorem m_isLog (l : Launch) (G : gG) (ad : Nat → Nat) (I : Nat → Int32) (F : Nat → Nat → Int32) (rw : Nat) (gd gl : Int64) (x : Int32) : cM l yX10_isLog wsX10_isLog 0 0 (0) (0) G [.ref (ad 0), .int x] (mW G ad I F rw gd gl) (qI G (S := Unit) (fun r _ => r = (mIsLog I x)) (fun _ => mW G ad I F rw gd gl)) := by
  refine o_M (cc := cX10_isLog) (maxL := 2) (ret := (some .boolean)) (own := RX10) (by decide +kernel) rfl rfl (Nat.le_of_ble_eq_true rfl) ?_
  intro p e s m below meth c A ls H locs hA C h hr hlk hnm hl
  have hx := C.1.1.1
  have hb := C.1.1.2.1
  have hl : lv_has ls 2 [(0, .ref (ad 0)), (1, .int x)] := hl
  have wd0 : Cond.fieldLink RX10 219 "ScaleHouseModel" "logs" "I" ∈ wsX10_isLog := by decide +kernel
  have hinX10 : ∀ w ∈ wsX100, w ∈ wsX10_isLog := fun _ h => List.mem_cons_of_mem _ (List.mem_append_right _ h)
  refine lv_iload_n hx hb dX10_isLog_0 rfl (lv_at hl 1 rfl) ?_
  refine lv_if_lt (tgt := 16) hx hb dX10_isLog_1 (by decide) (fun c_1 => ?_) (fun c_1 => ?_)
  · refine lv_iconst (v := 0) hx hb dX10_isLog_16 (by decide) ?_
    exact r_zret C h hr hlk (Nat.zero_le _) (Nat.zero_le _) (Or.inl rfl) () (by simp only [mIsLog, if_pos c_1]) (rfl) dX10_isLog_17
  · refine lv_iload_n hx hb dX10_isLog_4 rfl (lv_at hl 1 rfl) ?_
    refine lv_aload_n hx hb dX10_isLog_5 rfl (lv_at hl 0 rfl) ?_
    refine r_get C h 0 rfl (Cn := RX10) (T := TX10) (N := 50) rfl hinX10 27 (by decide) (index := 219) (ref := "ScaleHouseModel") wd0 rfl (v := .int (I 27)) rfl dX10_isLog_6 ?_
    refine lv_icmp_ge (tgt := 16) hx hb dX10_isLog_9 (by decide) (fun c_9 => ?_) (fun c_9 => ?_)
    · refine lv_iconst (v := 0) hx hb dX10_isLog_16 (by decide) ?_
      exact r_zret C h hr hlk (Nat.zero_le _) (Nat.zero_le _) (Or.inl rfl) () (by simp only [mIsLog, if_neg c_1, if_pos c_9]) (rfl) dX10_isLog_17
    · refine lv_iconst (v := 1) hx hb dX10_isLog_12 (by decide) ?_
      refine lv_goto (tgt := 17) hx hb dX10_isLog_13 (by decide) ?_
      exact r_zret C h hr hlk (Nat.zero_le _) (Nat.zero_le _) (Or.inr rfl) () (by simp only [mIsLog, if_neg c_1, if_neg c_9]) (rfl) dX10_isLog_17

def lim (x : Int32) (n : Nat) : Prop := ∃ k, k ≤ n ∧ x = nI k
theorem lim_in {x : Int32} {n : Nat} (h : lim x n) (hn : n < 2 ^ 31) (h2 : ¬ x = nI n) : vp_in x n := by
  obtain ⟨k, hk, rfl⟩ := h
  exact vp_in_nI (Nat.lt_of_le_of_ne hk (fun e => h2 (by rw [e]))) hn
theorem mIsLog_in {I : Nat → Int32} {x : Int32} {n : Nat} (h : ¬ mIsLog I x = 0) (hl : lim (I 27) n) (hn : n < 2 ^ 31) : vp_in x n := by
  obtain ⟨k, hk, e⟩ := hl
  unfold mIsLog at h
  split at h
  · exact absurd rfl h
  · next h1 =>
    split at h
    · exact absurd rfl h
    · next h2 =>
      obtain ⟨j, hj, rfl⟩ := nI_of h1
      rw [e] at h2
      exact vp_in_nI (Nat.lt_of_lt_of_le (nn_lt h2 hj) hk) hn
theorem mIn_lim {v x : Int32} {n : Nat} (h : ¬ mIn v 0 (x - 1) = 0) (hl : lim x n) (hn : n < 2 ^ 31) : vp_in v n := by
  obtain ⟨k, hk, rfl⟩ := hl
  have h1 := Decidable.not_not.mp (fun z => h ((mIn_iff v 0 _).mpr z))
  rw [vp_in_iff]
  have h2 := (fa_le 0 v).mp h1.1
  have h3 := (fa_le v _).mp h1.2
  have h4 : (nI k - 1).toInt = (k : Int) - 1 := by
    rcases Nat.eq_zero_or_pos k with rfl | z
    · rfl
    · rw [show (1 : Int32) = nI 1 from rfl, pk_sub z, nI_toInt (by omega)]; omega
  exact ⟨h2, by omega⟩
def mNear (I : Nat → Int32) (n : Int32) : Int32 × (Nat → Int32) :=
  if (mIn n 0 100) = 0 then (0, (upd I 0 0))
  else (1, (upd (upd I 0 0) 46 n))
set_option maxHeartbeats 4000000 in
set_option maxRecDepth 100000 in
theorem m_near (l : Launch) (G : gG) (ad : Nat → Nat) (I : Nat → Int32) (F : Nat → Nat → Int32) (rw : Nat) (gd gl : Int64) (n : Int32) : cM l yX10_near wsX10_near 1 25 (0) (0) G [.ref (ad 0), .int n] (mW G ad I F rw gd gl) (qI G (S := Unit) (fun r _ => r = (mNear I n).1) (fun _ => mW G ad ((mNear I n).2) F rw gd gl)) := by
  refine o_M (cc := cX10_near) (maxL := 2) (ret := (some .boolean)) (own := RX10) (by decide +kernel) rfl rfl (Nat.le_of_ble_eq_true rfl) ?_
  intro p e s m below meth c A ls H locs hA C h hr hlk hnm hl
  have hx := C.1.1.1
  have hb := C.1.1.2.1
  have hl : lv_has ls 2 [(0, .ref (ad 0)), (1, .int n)] := hl
  have wd0 : Cond.fieldLink RX10 106 "ScaleHouseModel" "thrown" "I" ∈ wsX10_near := by decide +kernel
  have hinX10 : ∀ w ∈ wsX100, w ∈ wsX10_near := fun _ h => List.mem_cons_of_mem _ (List.mem_append_right _ h)
  have wd1 : Cond.fieldLink RX10 99 "ScaleHouseModel" "allowance" "I" ∈ wsX10_near := by decide +kernel
  refine lv_aload_n hx hb dX10_near_0 rfl (lv_at hl 0 rfl) ?_
  refine lv_iconst (v := 0) hx hb dX10_near_1 (by decide) ?_
  refine r_put C h 0 rfl (Cn := RX10) (T := TX10) (N := 50) rfl hinX10 tyX10 tyX10_ok nmX10 0 (by decide) (index := 106) (ref := "ScaleHouseModel") wd0 rfl rfl (v := .int 0) rfl rfl (show 0 < 50 by decide) dX10_near_2 (fun H locs h => ?_)
  have h : gS G A s (mW G ad (upd I 0 0) F rw gd gl) H locs := h
  refine lv_iload_n hx hb dX10_near_5 rfl (lv_at hl 1 rfl) ?_
  refine lv_iconst (v := 0) hx hb dX10_near_6 (by decide) ?_
  refine lv_bipush (v := 100) hx hb dX10_near_7 (by decide) ?_
  have hp : List.Perm (mW G ad (upd I 0 0) F rw gd gl : va_W) ([] ++ ([((ad 0), .inr (10, [.int 0, .ref (ad 1), .ref (ad 2), .ref (ad 3), .ref (ad 4), .ref (ad 5), .ref (ad 6), .ref (ad 7), .ref (ad 8), .ref (ad 9), .ref (ad 10), .ref (ad 11), .ref (ad 12), .ref (ad 13), .ref (ad 14), .ref (ad 15), .ref (ad 16), .ref (ad 17), .ref (ad 18), .ref (ad 19), .ref (ad 20), .ref (ad 21), .ref (ad 22), .int (I 23), .int (I 24), .int (I 25), .int (I 26), .int (I 27), .int (I 28), .int (I 29), .ref rw, .int (I 31), .int (I 32), .int (I 33), .int (I 34), .int (I 35), .long gd, .long gl, .ref (ad 38), .ref (ad 39), .ref (ad 40), .ref (ad 41), .ref (ad 42), .ref (ad 43), .int (I 44), .int (I 45), .int (I 46), .int (I 47), .int (I 48), .int (I 49)])), ((ad 1), .inl (G.2.2 0, 120, .inl (F 1))), ((ad 2), .inl (G.2.2 0, 2400, .inl (F 2))), ((ad 3), .inl (G.2.2 1, 20, .inl (F 3))), ((ad 4), .inl (G.2.2 1, 20, .inl (F 4))), ((ad 5), .inl (G.2.2 1, 20, .inl (F 5))), ((ad 6), .inl (G.2.2 1, 60, .inl (F 6))), ((ad 7), .inl (G.2.2 1, 60, .inl (F 7))), ((ad 8), .inl (G.2.2 1, 60, .inl (F 8))), ((ad 9), .inl (G.2.2 1, 60, .inl (F 9))), ((ad 10), .inl (G.2.2 1, 100, .inl (F 10))), ((ad 11), .inl (G.2.2 1, 100, .inl (F 11))), ((ad 12), .inl (G.2.2 1, 100, .inl (F 12))), ((ad 13), .inl (G.2.2 1, 100, .inl (F 13))), ((ad 14), .inl (G.2.2 1, 100, .inl (F 14))), ((ad 15), .inl (G.2.2 1, 100, .inl (F 15))), ((ad 16), .inl (G.2.2 1, 100, .inl (F 16))), ((ad 17), .inl (G.2.2 1, 100, .inl (F 17))), ((ad 18), .inl (G.2.2 1, 100, .inl (F 18))), ((ad 19), .inl (G.2.2 1, 6, .inl (F 19))), ((ad 20), .inl (G.2.2 1, 20000, .inl (F 20))), ((ad 21), .inl (G.2.2 1, 20000, .inl (F 21))), ((ad 22), .inl (G.2.2 1, 20000, .inl (F 22))), ((ad 38), .inl (G.2.2 1, 40, .inl (F 38))), ((ad 39), .inl (G.2.2 1, 40, .inl (F 39))), ((ad 40), .inl (G.2.2 1, 2, .inl (F 40))), ((ad 41), .inl (G.2.2 1, 20, .inl (F 41))), ((ad 42), .inl (G.2.2 3, 20, .inl (F 42))), ((ad 43), .inl (G.2.2 3, 20, .inl (F 43)))])) := List.Perm.refl _
  refine k_i C h hp (r_runS C h hp (As := [.int n, .int 0, .int 100]) (rest := []) (m_isIn l G n 0 100) (va_cwS 3 C.1.1.2.2.2.2 gX10_near_X10_isIn rfl rfl rfl (by decide +kernel) ⟨Nat.le_of_ble_eq_true rfl, Nat.le_of_ble_eq_true rfl⟩) rfl hl.1 (Nat.le_of_ble_eq_true rfl) dX10_near_9 ⟨Nat.le_of_ble_eq_true rfl, Nat.le_of_ble_eq_true rfl⟩) (fun r_1 u_2 H locs hw_3 h => ?_)
  have h : gS G A s (mW G ad (upd I 0 0) F rw gd gl) H locs := h
  refine W.widen (k := 0) (n := 0) (Nat.le_of_ble_eq_true rfl) (Nat.le_of_ble_eq_true rfl) ?_
  subst hw_3
  refine lv_if_ne (tgt := 17) hx hb dX10_near_12 (by decide) (fun c_12 => ?_) (fun c_12 => ?_)
  · refine lv_aload_n hx hb dX10_near_17 rfl (lv_at hl 0 rfl) ?_
    refine lv_iload_n hx hb dX10_near_18 rfl (lv_at hl 1 rfl) ?_
    refine r_put C h 0 rfl (Cn := RX10) (T := TX10) (N := 50) rfl hinX10 tyX10 tyX10_ok nmX10 46 (by decide) (index := 99) (ref := "ScaleHouseModel") wd1 rfl rfl (v := .int n) rfl rfl (show 46 < 50 by decide) dX10_near_19 (fun H locs h => ?_)
    have h : gS G A s (mW G ad (upd (upd I 0 0) 46 n) F rw gd gl) H locs := h
    refine lv_iconst (v := 1) hx hb dX10_near_22 (by decide) ?_
    exact r_zret C h hr hlk (Nat.zero_le _) (Nat.zero_le _) (Or.inr rfl) () (by simp only [mNear, if_neg c_12]) (by simp only [mNear, if_neg c_12]) dX10_near_23
  · refine lv_iconst (v := 0) hx hb dX10_near_15 (by decide) ?_
    exact r_zret C h hr hlk (Nat.zero_le _) (Nat.zero_le _) (Or.inl rfl) () (by simp only [mNear, if_pos c_12]) (by simp only [mNear, if_pos c_12]) dX10_near_16

def mIsNear (I : Nat → Int32) (x t : Int32) : Int32 :=
  if (t.toInt64 * (I 46).toInt64) < ((if 0 ≤ (x - t) then (x - t) else 0 - (x - t)).toInt64 * 100) then 0
  else 1
set_option maxHeartbeats 4000000 in
set_option maxRecDepth 100000 in
theorem m_isNear (l : Launch) (G : gG) (ad : Nat → Nat) (I : Nat → Int32) (F : Nat → Nat → Int32) (rw : Nat) (gd gl : Int64) (x t : Int32) : cM l yX10_isNear wsX10_isNear 1 25 (0) (0) G [.ref (ad 0), .int x, .int t] (mW G ad I F rw gd gl) (qI G (S := Unit) (fun r _ => r = (mIsNear I x t)) (fun _ => mW G ad I F rw gd gl)) := by
  refine o_M (cc := cX10_isNear) (maxL := 3) (ret := (some .boolean)) (own := RX10) (by decide +kernel) rfl rfl (Nat.le_of_ble_eq_true rfl) ?_
  intro p e s m below meth c A ls H locs hA C h hr hlk hnm hl
  have hx := C.1.1.1
  have hb := C.1.1.2.1
  have hl : lv_has ls 3 [(0, .ref (ad 0)), (1, .int x), (2, .int t)] := hl
  have wd0 : Cond.methodLink RX10 256 Lib.Math.abs.name ∈ wsX10_isNear := by decide +kernel
  have wd1 : Cond.static Lib.Math.abs.name ∈ wsX10_isNear := by decide +kernel
  have wd2 : Cond.initialized "java/lang/Math" ∈ wsX10_isNear := by decide +kernel
  have wd3 : Cond.code Lib.Math.abs.name Lib.Math.abs.code 1 (some .int) ∈ wsX10_isNear := by decide +kernel
  have wd4 : Cond.constantLong RX10 233 (100) ∈ wsX10_isNear := by decide +kernel
  have wd5 : Cond.fieldLink RX10 99 "ScaleHouseModel" "allowance" "I" ∈ wsX10_isNear := by decide +kernel
  have hinX10 : ∀ w ∈ wsX100, w ∈ wsX10_isNear := fun _ h => List.mem_cons_of_mem _ (List.mem_append_right _ h)
  refine lv_iload_n hx hb dX10_isNear_0 rfl (lv_at hl 1 rfl) ?_
  refine lv_iload_n hx hb dX10_isNear_1 rfl (lv_at hl 2 rfl) ?_
  refine lv_isub hx hb dX10_isNear_2 ?_
  refine va_mabs hx hb (C.1.1.2.2.1.trans hl.1.symm) C.1.1.2.2.2.1 (C.1.1.2.2.2.2 _ wd0) (C.1.1.2.2.2.2 _ wd1) (C.1.1.2.2.2.2 _ wd2) (C.1.1.2.2.2.2 _ wd3) (Nat.le_of_ble_eq_true rfl) (Nat.le_of_ble_eq_true rfl) (Nat.le_of_ble_eq_true rfl) (Nat.le_of_ble_eq_true rfl) dX10_isNear_3 ?_
  refine lv_i2l hx hb dX10_isNear_6 rfl ?_
  refine r_ldc2 C (v := 100) wd4 dX10_isNear_7 ?_
  refine lv_lmul hx hb dX10_isNear_10 ?_
  refine lv_iload_n hx hb dX10_isNear_11 rfl (lv_at hl 2 rfl) ?_
  refine lv_i2l hx hb dX10_isNear_12 rfl ?_
  refine lv_aload_n hx hb dX10_isNear_13 rfl (lv_at hl 0 rfl) ?_
  refine r_get C h 0 rfl (Cn := RX10) (T := TX10) (N := 50) rfl hinX10 46 (by decide) (index := 99) (ref := "ScaleHouseModel") wd5 rfl (v := .int (I 46)) rfl dX10_isNear_14 ?_
  refine lv_i2l hx hb dX10_isNear_17 rfl ?_
  refine lv_lmul hx hb dX10_isNear_18 ?_
  refine W.lcmp hx hb dX10_isNear_19 ?_
  refine lv_if_gt (tgt := 27) hx hb dX10_isNear_20 (by decide) (fun c_20 => ?_) (fun c_20 => ?_)
  · rw [lg_cmp_gt] at c_20
    refine lv_iconst (v := 0) hx hb dX10_isNear_27 (by decide) ?_
    exact r_zret C h hr hlk (Nat.zero_le _) (Nat.zero_le _) (Or.inl rfl) () (by simp only [mIsNear, if_pos c_20]) (rfl) dX10_isNear_28
  · rw [lg_cmp_gt] at c_20
    refine lv_iconst (v := 1) hx hb dX10_isNear_23 (by decide) ?_
    refine lv_goto (tgt := 28) hx hb dX10_isNear_24 (by decide) ?_
    exact r_zret C h hr hlk (Nat.zero_le _) (Nat.zero_le _) (Or.inr rfl) () (by simp only [mIsNear, if_neg c_20]) (rfl) dX10_isNear_28

def mJudge (I : Nat → Int32) (x y t : Int32) : Int32 × (Nat → Int32) :=
  if (mIn x 0 1000000) = 0 then ((-1), (upd I 0 0))
  else if (mIn y 0 1000000) = 0 then ((-1), (upd I 0 0))
    else if (mIn t 0 1000000) = 0 then ((-1), (upd I 0 0))
      else if (mIsNear (upd I 0 0) x t) = 0 then if (mIsNear (upd I 0 0) y t) = 0 then (3, (upd (upd (upd (upd I 0 0) 48 ((I 48) + 1)) 49 ((I 49) + 1)) 47 t))
          else (1, (upd (upd (upd (upd I 0 0) 48 ((I 48) + 1)) 49 ((I 49) + 0)) 47 y))
        else if (mIsNear (upd I 0 0) y t) = 0 then (2, (upd (upd (upd (upd I 0 0) 48 ((I 48) + 0)) 49 ((I 49) + 1)) 47 x))
          else (0, (upd (upd (upd (upd I 0 0) 48 ((I 48) + 0)) 49 ((I 49) + 0)) 47 t))
set_option maxHeartbeats 4000000 in
set_option maxRecDepth 100000 in
theorem m_judge (l : Launch) (G : gG) (ad : Nat → Nat) (I : Nat → Int32) (F : Nat → Nat → Int32) (rw : Nat) (gd gl : Int64) (x y t : Int32) : cM l yX10_judge wsX10_judge 2 60 (0) (0) G [.ref (ad 0), .int x, .int y, .int t] (mW G ad I F rw gd gl) (qI G (S := Unit) (fun r _ => r = (mJudge I x y t).1) (fun _ => mW G ad ((mJudge I x y t).2) F rw gd gl)) := by
  refine o_M (cc := cX10_judge) (maxL := 7) (ret := (some .int)) (own := RX10) (by decide +kernel) rfl rfl (Nat.le_of_ble_eq_true rfl) ?_
  intro p e s m below meth c A ls H locs hA C h hr hlk hnm hl
  have hx := C.1.1.1
  have hb := C.1.1.2.1
  have hl : lv_has ls 7 [(0, .ref (ad 0)), (1, .int x), (2, .int y), (3, .int t)] := hl
  have wd0 : Cond.fieldLink RX10 106 "ScaleHouseModel" "thrown" "I" ∈ wsX10_judge := by decide +kernel
  have hinX10 : ∀ w ∈ wsX100, w ∈ wsX10_judge := fun _ h => List.mem_cons_of_mem _ (List.mem_append_right _ h)
  have wd1 : Cond.constant RX10 272 (1000000) ∈ wsX10_judge := by decide +kernel
  have wd2 : Cond.fieldLink RX10 276 "ScaleHouseModel" "buyerOff" "I" ∈ wsX10_judge := by decide +kernel
  have wd3 : Cond.fieldLink RX10 279 "ScaleHouseModel" "sellerOff" "I" ∈ wsX10_judge := by decide +kernel
  have wd4 : Cond.fieldLink RX10 103 "ScaleHouseModel" "stood" "I" ∈ wsX10_judge := by decide +kernel
  refine lv_aload_n hx hb dX10_judge_0 rfl (lv_at hl 0 rfl) ?_
  refine lv_iconst (v := 0) hx hb dX10_judge_1 (by decide) ?_
  refine r_put C h 0 rfl (Cn := RX10) (T := TX10) (N := 50) rfl hinX10 tyX10 tyX10_ok nmX10 0 (by decide) (index := 106) (ref := "ScaleHouseModel") wd0 rfl rfl (v := .int 0) rfl rfl (show 0 < 50 by decide) dX10_judge_2 (fun H locs h => ?_)
  have h : gS G A s (mW G ad (upd I 0 0) F rw gd gl) H locs := h
  refine lv_iload_n hx hb dX10_judge_5 rfl (lv_at hl 1 rfl) ?_
  refine lv_iconst (v := 0) hx hb dX10_judge_6 (by decide) ?_
  refine lv_ldcw hx hb C.1.1.2.2.2.1 (v := 1000000) (C.1.1.2.2.2.2 _ wd1) dX10_judge_7 ?_
  have hp : List.Perm (mW G ad (upd I 0 0) F rw gd gl : va_W) ([] ++ ([((ad 0), .inr (10, [.int 0, .ref (ad 1), .ref (ad 2), .ref (ad 3), .ref (ad 4), .ref (ad 5), .ref (ad 6), .ref (ad 7), .ref (ad 8), .ref (ad 9), .ref (ad 10), .ref (ad 11), .ref (ad 12), .ref (ad 13), .ref (ad 14), .ref (ad 15), .ref (ad 16), .ref (ad 17), .ref (ad 18), .ref (ad 19), .ref (ad 20), .ref (ad 21), .ref (ad 22), .int (I 23), .int (I 24), .int (I 25), .int (I 26), .int (I 27), .int (I 28), .int (I 29), .ref rw, .int (I 31), .int (I 32), .int (I 33), .int (I 34), .int (I 35), .long gd, .long gl, .ref (ad 38), .ref (ad 39), .ref (ad 40), .ref (ad 41), .ref (ad 42), .ref (ad 43), .int (I 44), .int (I 45), .int (I 46), .int (I 47), .int (I 48), .int (I 49)])), ((ad 1), .inl (G.2.2 0, 120, .inl (F 1))), ((ad 2), .inl (G.2.2 0, 2400, .inl (F 2))), ((ad 3), .inl (G.2.2 1, 20, .inl (F 3))), ((ad 4), .inl (G.2.2 1, 20, .inl (F 4))), ((ad 5), .inl (G.2.2 1, 20, .inl (F 5))), ((ad 6), .inl (G.2.2 1, 60, .inl (F 6))), ((ad 7), .inl (G.2.2 1, 60, .inl (F 7))), ((ad 8), .inl (G.2.2 1, 60, .inl (F 8))), ((ad 9), .inl (G.2.2 1, 60, .inl (F 9))), ((ad 10), .inl (G.2.2 1, 100, .inl (F 10))), ((ad 11), .inl (G.2.2 1, 100, .inl (F 11))), ((ad 12), .inl (G.2.2 1, 100, .inl (F 12))), ((ad 13), .inl (G.2.2 1, 100, .inl (F 13))), ((ad 14), .inl (G.2.2 1, 100, .inl (F 14))), ((ad 15), .inl (G.2.2 1, 100, .inl (F 15))), ((ad 16), .inl (G.2.2 1, 100, .inl (F 16))), ((ad 17), .inl (G.2.2 1, 100, .inl (F 17))), ((ad 18), .inl (G.2.2 1, 100, .inl (F 18))), ((ad 19), .inl (G.2.2 1, 6, .inl (F 19))), ((ad 20), .inl (G.2.2 1, 20000, .inl (F 20))), ((ad 21), .inl (G.2.2 1, 20000, .inl (F 21))), ((ad 22), .inl (G.2.2 1, 20000, .inl (F 22))), ((ad 38), .inl (G.2.2 1, 40, .inl (F 38))), ((ad 39), .inl (G.2.2 1, 40, .inl (F 39))), ((ad 40), .inl (G.2.2 1, 2, .inl (F 40))), ((ad 41), .inl (G.2.2 1, 20, .inl (F 41))), ((ad 42), .inl (G.2.2 3, 20, .inl (F 42))), ((ad 43), .inl (G.2.2 3, 20, .inl (F 43)))])) := List.Perm.refl _
  refine k_i C h hp (r_runS C h hp (As := [.int x, .int 0, .int 1000000]) (rest := []) (m_isIn l G x 0 1000000) (va_cwS 3 C.1.1.2.2.2.2 gX10_judge_X10_isIn rfl rfl rfl (by decide +kernel) ⟨Nat.le_of_ble_eq_true rfl, Nat.le_of_ble_eq_true rfl⟩) rfl hl.1 (Nat.le_of_ble_eq_true rfl) dX10_judge_10 ⟨Nat.le_of_ble_eq_true rfl, Nat.le_of_ble_eq_true rfl⟩) (fun r_1 u_2 H locs hw_3 h => ?_)
  have h : gS G A s (mW G ad (upd I 0 0) F rw gd gl) H locs := h
  refine W.widen (k := 0) (n := 0) (Nat.le_of_ble_eq_true rfl) (Nat.le_of_ble_eq_true rfl) ?_
  subst hw_3
  refine lv_if_eq (tgt := 38) hx hb dX10_judge_13 (by decide) (fun c_13 => ?_) (fun c_13 => ?_)
  · refine lv_iconst (v := -1) hx hb dX10_judge_38 (by decide) ?_
    exact r_iret C h hr hlk (Nat.zero_le _) (Nat.zero_le _) () (by simp only [mJudge, if_pos c_13]) (by simp only [mJudge, if_pos c_13]) dX10_judge_39
  · refine lv_iload_n hx hb dX10_judge_16 rfl (lv_at hl 2 rfl) ?_
    refine lv_iconst (v := 0) hx hb dX10_judge_17 (by decide) ?_
    refine lv_ldcw hx hb C.1.1.2.2.2.1 (v := 1000000) (C.1.1.2.2.2.2 _ wd1) dX10_judge_18 ?_
    have hp : List.Perm (mW G ad (upd I 0 0) F rw gd gl : va_W) ([] ++ ([((ad 0), .inr (10, [.int 0, .ref (ad 1), .ref (ad 2), .ref (ad 3), .ref (ad 4), .ref (ad 5), .ref (ad 6), .ref (ad 7), .ref (ad 8), .ref (ad 9), .ref (ad 10), .ref (ad 11), .ref (ad 12), .ref (ad 13), .ref (ad 14), .ref (ad 15), .ref (ad 16), .ref (ad 17), .ref (ad 18), .ref (ad 19), .ref (ad 20), .ref (ad 21), .ref (ad 22), .int (I 23), .int (I 24), .int (I 25), .int (I 26), .int (I 27), .int (I 28), .int (I 29), .ref rw, .int (I 31), .int (I 32), .int (I 33), .int (I 34), .int (I 35), .long gd, .long gl, .ref (ad 38), .ref (ad 39), .ref (ad 40), .ref (ad 41), .ref (ad 42), .ref (ad 43), .int (I 44), .int (I 45), .int (I 46), .int (I 47), .int (I 48), .int (I 49)])), ((ad 1), .inl (G.2.2 0, 120, .inl (F 1))), ((ad 2), .inl (G.2.2 0, 2400, .inl (F 2))), ((ad 3), .inl (G.2.2 1, 20, .inl (F 3))), ((ad 4), .inl (G.2.2 1, 20, .inl (F 4))), ((ad 5), .inl (G.2.2 1, 20, .inl (F 5))), ((ad 6), .inl (G.2.2 1, 60, .inl (F 6))), ((ad 7), .inl (G.2.2 1, 60, .inl (F 7))), ((ad 8), .inl (G.2.2 1, 60, .inl (F 8))), ((ad 9), .inl (G.2.2 1, 60, .inl (F 9))), ((ad 10), .inl (G.2.2 1, 100, .inl (F 10))), ((ad 11), .inl (G.2.2 1, 100, .inl (F 11))), ((ad 12), .inl (G.2.2 1, 100, .inl (F 12))), ((ad 13), .inl (G.2.2 1, 100, .inl (F 13))), ((ad 14), .inl (G.2.2 1, 100, .inl (F 14))), ((ad 15), .inl (G.2.2 1, 100, .inl (F 15))), ((ad 16), .inl (G.2.2 1, 100, .inl (F 16))), ((ad 17), .inl (G.2.2 1, 100, .inl (F 17))), ((ad 18), .inl (G.2.2 1, 100, .inl (F 18))), ((ad 19), .inl (G.2.2 1, 6, .inl (F 19))), ((ad 20), .inl (G.2.2 1, 20000, .inl (F 20))), ((ad 21), .inl (G.2.2 1, 20000, .inl (F 21))), ((ad 22), .inl (G.2.2 1, 20000, .inl (F 22))), ((ad 38), .inl (G.2.2 1, 40, .inl (F 38))), ((ad 39), .inl (G.2.2 1, 40, .inl (F 39))), ((ad 40), .inl (G.2.2 1, 2, .inl (F 40))), ((ad 41), .inl (G.2.2 1, 20, .inl (F 41))), ((ad 42), .inl (G.2.2 3, 20, .inl (F 42))), ((ad 43), .inl (G.2.2 3, 20, .inl (F 43)))])) := List.Perm.refl _
    refine k_i C h hp (r_runS C h hp (As := [.int y, .int 0, .int 1000000]) (rest := []) (m_isIn l G y 0 1000000) (va_cwS 3 C.1.1.2.2.2.2 gX10_judge_X10_isIn rfl rfl rfl (by decide +kernel) ⟨Nat.le_of_ble_eq_true rfl, Nat.le_of_ble_eq_true rfl⟩) rfl hl.1 (Nat.le_of_ble_eq_true rfl) dX10_judge_21 ⟨Nat.le_of_ble_eq_true rfl, Nat.le_of_ble_eq_true rfl⟩) (fun r_4 u_5 H locs hw_6 h => ?_)
    have h : gS G A s (mW G ad (upd I 0 0) F rw gd gl) H locs := h
    refine W.widen (k := 0) (n := 0) (Nat.le_of_ble_eq_true rfl) (Nat.le_of_ble_eq_true rfl) ?_
    subst hw_6
    refine lv_if_eq (tgt := 38) hx hb dX10_judge_24 (by decide) (fun c_24 => ?_) (fun c_24 => ?_)
    · refine lv_iconst (v := -1) hx hb dX10_judge_38 (by decide) ?_
      exact r_iret C h hr hlk (Nat.zero_le _) (Nat.zero_le _) () (by simp only [mJudge, if_neg c_13, if_pos c_24]) (by simp only [mJudge, if_neg c_13, if_pos c_24]) dX10_judge_39
    · refine lv_iload_n hx hb dX10_judge_27 rfl (lv_at hl 3 rfl) ?_
      refine lv_iconst (v := 0) hx hb dX10_judge_28 (by decide) ?_
      refine lv_ldcw hx hb C.1.1.2.2.2.1 (v := 1000000) (C.1.1.2.2.2.2 _ wd1) dX10_judge_29 ?_
      have hp : List.Perm (mW G ad (upd I 0 0) F rw gd gl : va_W) ([] ++ ([((ad 0), .inr (10, [.int 0, .ref (ad 1), .ref (ad 2), .ref (ad 3), .ref (ad 4), .ref (ad 5), .ref (ad 6), .ref (ad 7), .ref (ad 8), .ref (ad 9), .ref (ad 10), .ref (ad 11), .ref (ad 12), .ref (ad 13), .ref (ad 14), .ref (ad 15), .ref (ad 16), .ref (ad 17), .ref (ad 18), .ref (ad 19), .ref (ad 20), .ref (ad 21), .ref (ad 22), .int (I 23), .int (I 24), .int (I 25), .int (I 26), .int (I 27), .int (I 28), .int (I 29), .ref rw, .int (I 31), .int (I 32), .int (I 33), .int (I 34), .int (I 35), .long gd, .long gl, .ref (ad 38), .ref (ad 39), .ref (ad 40), .ref (ad 41), .ref (ad 42), .ref (ad 43), .int (I 44), .int (I 45), .int (I 46), .int (I 47), .int (I 48), .int (I 49)])), ((ad 1), .inl (G.2.2 0, 120, .inl (F 1))), ((ad 2), .inl (G.2.2 0, 2400, .inl (F 2))), ((ad 3), .inl (G.2.2 1, 20, .inl (F 3))), ((ad 4), .inl (G.2.2 1, 20, .inl (F 4))), ((ad 5), .inl (G.2.2 1, 20, .inl (F 5))), ((ad 6), .inl (G.2.2 1, 60, .inl (F 6))), ((ad 7), .inl (G.2.2 1, 60, .inl (F 7))), ((ad 8), .inl (G.2.2 1, 60, .inl (F 8))), ((ad 9), .inl (G.2.2 1, 60, .inl (F 9))), ((ad 10), .inl (G.2.2 1, 100, .inl (F 10))), ((ad 11), .inl (G.2.2 1, 100, .inl (F 11))), ((ad 12), .inl (G.2.2 1, 100, .inl (F 12))), ((ad 13), .inl (G.2.2 1, 100, .inl (F 13))), ((ad 14), .inl (G.2.2 1, 100, .inl (F 14))), ((ad 15), .inl (G.2.2 1, 100, .inl (F 15))), ((ad 16), .inl (G.2.2 1, 100, .inl (F 16))), ((ad 17), .inl (G.2.2 1, 100, .inl (F 17))), ((ad 18), .inl (G.2.2 1, 100, .inl (F 18))), ((ad 19), .inl (G.2.2 1, 6, .inl (F 19))), ((ad 20), .inl (G.2.2 1, 20000, .inl (F 20))), ((ad 21), .inl (G.2.2 1, 20000, .inl (F 21))), ((ad 22), .inl (G.2.2 1, 20000, .inl (F 22))), ((ad 38), .inl (G.2.2 1, 40, .inl (F 38))), ((ad 39), .inl (G.2.2 1, 40, .inl (F 39))), ((ad 40), .inl (G.2.2 1, 2, .inl (F 40))), ((ad 41), .inl (G.2.2 1, 20, .inl (F 41))), ((ad 42), .inl (G.2.2 3, 20, .inl (F 42))), ((ad 43), .inl (G.2.2 3, 20, .inl (F 43)))])) := List.Perm.refl _
      refine k_i C h hp (r_runS C h hp (As := [.int t, .int 0, .int 1000000]) (rest := []) (m_isIn l G t 0 1000000) (va_cwS 3 C.1.1.2.2.2.2 gX10_judge_X10_isIn rfl rfl rfl (by decide +kernel) ⟨Nat.le_of_ble_eq_true rfl, Nat.le_of_ble_eq_true rfl⟩) rfl hl.1 (Nat.le_of_ble_eq_true rfl) dX10_judge_32 ⟨Nat.le_of_ble_eq_true rfl, Nat.le_of_ble_eq_true rfl⟩) (fun r_7 u_8 H locs hw_9 h => ?_)
      have h : gS G A s (mW G ad (upd I 0 0) F rw gd gl) H locs := h
      refine W.widen (k := 0) (n := 0) (Nat.le_of_ble_eq_true rfl) (Nat.le_of_ble_eq_true rfl) ?_
      subst hw_9
      refine lv_if_ne (tgt := 40) hx hb dX10_judge_35 (by decide) (fun c_35 => ?_) (fun c_35 => ?_)
      · refine lv_aload_n hx hb dX10_judge_40 rfl (lv_at hl 0 rfl) ?_
        refine lv_iload_n hx hb dX10_judge_41 rfl (lv_at hl 1 rfl) ?_
        refine lv_iload_n hx hb dX10_judge_42 rfl (lv_at hl 3 rfl) ?_
        have hp : List.Perm (mW G ad (upd I 0 0) F rw gd gl : va_W) ([((ad 0), .inr (10, [.int 0, .ref (ad 1), .ref (ad 2), .ref (ad 3), .ref (ad 4), .ref (ad 5), .ref (ad 6), .ref (ad 7), .ref (ad 8), .ref (ad 9), .ref (ad 10), .ref (ad 11), .ref (ad 12), .ref (ad 13), .ref (ad 14), .ref (ad 15), .ref (ad 16), .ref (ad 17), .ref (ad 18), .ref (ad 19), .ref (ad 20), .ref (ad 21), .ref (ad 22), .int (I 23), .int (I 24), .int (I 25), .int (I 26), .int (I 27), .int (I 28), .int (I 29), .ref rw, .int (I 31), .int (I 32), .int (I 33), .int (I 34), .int (I 35), .long gd, .long gl, .ref (ad 38), .ref (ad 39), .ref (ad 40), .ref (ad 41), .ref (ad 42), .ref (ad 43), .int (I 44), .int (I 45), .int (I 46), .int (I 47), .int (I 48), .int (I 49)])), ((ad 1), .inl (G.2.2 0, 120, .inl (F 1))), ((ad 2), .inl (G.2.2 0, 2400, .inl (F 2))), ((ad 3), .inl (G.2.2 1, 20, .inl (F 3))), ((ad 4), .inl (G.2.2 1, 20, .inl (F 4))), ((ad 5), .inl (G.2.2 1, 20, .inl (F 5))), ((ad 6), .inl (G.2.2 1, 60, .inl (F 6))), ((ad 7), .inl (G.2.2 1, 60, .inl (F 7))), ((ad 8), .inl (G.2.2 1, 60, .inl (F 8))), ((ad 9), .inl (G.2.2 1, 60, .inl (F 9))), ((ad 10), .inl (G.2.2 1, 100, .inl (F 10))), ((ad 11), .inl (G.2.2 1, 100, .inl (F 11))), ((ad 12), .inl (G.2.2 1, 100, .inl (F 12))), ((ad 13), .inl (G.2.2 1, 100, .inl (F 13))), ((ad 14), .inl (G.2.2 1, 100, .inl (F 14))), ((ad 15), .inl (G.2.2 1, 100, .inl (F 15))), ((ad 16), .inl (G.2.2 1, 100, .inl (F 16))), ((ad 17), .inl (G.2.2 1, 100, .inl (F 17))), ((ad 18), .inl (G.2.2 1, 100, .inl (F 18))), ((ad 19), .inl (G.2.2 1, 6, .inl (F 19))), ((ad 20), .inl (G.2.2 1, 20000, .inl (F 20))), ((ad 21), .inl (G.2.2 1, 20000, .inl (F 21))), ((ad 22), .inl (G.2.2 1, 20000, .inl (F 22))), ((ad 38), .inl (G.2.2 1, 40, .inl (F 38))), ((ad 39), .inl (G.2.2 1, 40, .inl (F 39))), ((ad 40), .inl (G.2.2 1, 2, .inl (F 40))), ((ad 41), .inl (G.2.2 1, 20, .inl (F 41))), ((ad 42), .inl (G.2.2 3, 20, .inl (F 42))), ((ad 43), .inl (G.2.2 3, 20, .inl (F 43)))] ++ []) := pm 29 rfl [0, 1, 2, 3, 4, 5, 6, 7, 8, 9, 10, 11, 12, 13, 14, 15, 16, 17, 18, 19, 20, 21, 22, 23, 24, 25, 26, 27, 28] (by decide +kernel) rfl
        refine k_i C h hp (r_runV C h hp 0 rfl rfl (As := [.int x, .int t]) (rest := []) (m_isNear l G ad (upd I 0 0) F rw gd gl x t) (cwV 2 C.1.1.2.2.2.2 gX10_judge_X10_isNear rfl rfl rfl (by decide +kernel) ⟨Nat.le_of_ble_eq_true rfl, Nat.le_of_ble_eq_true rfl⟩) rfl hl.1 (Nat.le_of_ble_eq_true rfl) dX10_judge_43 ⟨Nat.le_of_ble_eq_true rfl, Nat.le_of_ble_eq_true rfl⟩) (fun r_10 u_11 H locs hw_12 h => ?_)
        have h : gS G A s (mW G ad (upd I 0 0) F rw gd gl) H locs := h
        refine W.widen (k := 0) (n := 0) (Nat.le_of_ble_eq_true rfl) (Nat.le_of_ble_eq_true rfl) ?_
        subst hw_12
        refine lv_istore (lv' := [(4, .int (mIsNear (upd I 0 0) x t)), (0, .ref (ad 0)), (1, .int x), (2, .int y), (3, .int t)]) hx hb dX10_judge_46 hl (by decide) rfl (fun ls hl => ?_)
        refine lv_aload_n hx hb dX10_judge_48 rfl (lv_at hl 1 rfl) ?_
        refine lv_iload_n hx hb dX10_judge_49 rfl (lv_at hl 3 rfl) ?_
        refine lv_iload_n hx hb dX10_judge_50 rfl (lv_at hl 4 rfl) ?_
        have hp : List.Perm (mW G ad (upd I 0 0) F rw gd gl : va_W) ([((ad 0), .inr (10, [.int 0, .ref (ad 1), .ref (ad 2), .ref (ad 3), .ref (ad 4), .ref (ad 5), .ref (ad 6), .ref (ad 7), .ref (ad 8), .ref (ad 9), .ref (ad 10), .ref (ad 11), .ref (ad 12), .ref (ad 13), .ref (ad 14), .ref (ad 15), .ref (ad 16), .ref (ad 17), .ref (ad 18), .ref (ad 19), .ref (ad 20), .ref (ad 21), .ref (ad 22), .int (I 23), .int (I 24), .int (I 25), .int (I 26), .int (I 27), .int (I 28), .int (I 29), .ref rw, .int (I 31), .int (I 32), .int (I 33), .int (I 34), .int (I 35), .long gd, .long gl, .ref (ad 38), .ref (ad 39), .ref (ad 40), .ref (ad 41), .ref (ad 42), .ref (ad 43), .int (I 44), .int (I 45), .int (I 46), .int (I 47), .int (I 48), .int (I 49)])), ((ad 1), .inl (G.2.2 0, 120, .inl (F 1))), ((ad 2), .inl (G.2.2 0, 2400, .inl (F 2))), ((ad 3), .inl (G.2.2 1, 20, .inl (F 3))), ((ad 4), .inl (G.2.2 1, 20, .inl (F 4))), ((ad 5), .inl (G.2.2 1, 20, .inl (F 5))), ((ad 6), .inl (G.2.2 1, 60, .inl (F 6))), ((ad 7), .inl (G.2.2 1, 60, .inl (F 7))), ((ad 8), .inl (G.2.2 1, 60, .inl (F 8))), ((ad 9), .inl (G.2.2 1, 60, .inl (F 9))), ((ad 10), .inl (G.2.2 1, 100, .inl (F 10))), ((ad 11), .inl (G.2.2 1, 100, .inl (F 11))), ((ad 12), .inl (G.2.2 1, 100, .inl (F 12))), ((ad 13), .inl (G.2.2 1, 100, .inl (F 13))), ((ad 14), .inl (G.2.2 1, 100, .inl (F 14))), ((ad 15), .inl (G.2.2 1, 100, .inl (F 15))), ((ad 16), .inl (G.2.2 1, 100, .inl (F 16))), ((ad 17), .inl (G.2.2 1, 100, .inl (F 17))), ((ad 18), .inl (G.2.2 1, 100, .inl (F 18))), ((ad 19), .inl (G.2.2 1, 6, .inl (F 19))), ((ad 20), .inl (G.2.2 1, 20000, .inl (F 20))), ((ad 21), .inl (G.2.2 1, 20000, .inl (F 21))), ((ad 22), .inl (G.2.2 1, 20000, .inl (F 22))), ((ad 38), .inl (G.2.2 1, 40, .inl (F 38))), ((ad 39), .inl (G.2.2 1, 40, .inl (F 39))), ((ad 40), .inl (G.2.2 1, 2, .inl (F 40))), ((ad 41), .inl (G.2.2 1, 20, .inl (F 41))), ((ad 42), .inl (G.2.2 3, 20, .inl (F 42))), ((ad 43), .inl (G.2.2 3, 20, .inl (F 43)))] ++ []) := pm 29 rfl [0, 1, 2, 3, 4, 5, 6, 7, 8, 9, 10, 11, 12, 13, 14, 15, 16, 17, 18, 19, 20, 21, 22, 23, 24, 25, 26, 27, 28] (by decide +kernel) rfl
        refine k_i C h hp (r_runV C h hp 0 rfl rfl (As := [.int y, .int t]) (rest := []) (m_isNear l G ad (upd I 0 0) F rw gd gl y t) (cwV 2 C.1.1.2.2.2.2 gX10_judge_X10_isNear rfl rfl rfl (by decide +kernel) ⟨Nat.le_of_ble_eq_true rfl, Nat.le_of_ble_eq_true rfl⟩) rfl hl.1 (Nat.le_of_ble_eq_true rfl) dX10_judge_51 ⟨Nat.le_of_ble_eq_true rfl, Nat.le_of_ble_eq_true rfl⟩) (fun r_13 u_14 H locs hw_15 h => ?_)
        have h : gS G A s (mW G ad (upd I 0 0) F rw gd gl) H locs := h
        refine W.widen (k := 0) (n := 0) (Nat.le_of_ble_eq_true rfl) (Nat.le_of_ble_eq_true rfl) ?_
        subst hw_15
        refine lv_istore (lv' := [(5, .int (mIsNear (upd I 0 0) y t)), (4, .int (mIsNear (upd I 0 0) x t)), (0, .ref (ad 0)), (1, .int x), (2, .int y), (3, .int t)]) hx hb dX10_judge_54 hl (by decide) rfl (fun ls hl => ?_)
        refine lv_aload_n hx hb dX10_judge_56 rfl (lv_at hl 2 rfl) ?_
        refine lv_dup hx hb dX10_judge_57 rfl ?_
        refine r_get C h 0 rfl (Cn := RX10) (T := TX10) (N := 50) rfl hinX10 48 (by decide) (index := 276) (ref := "ScaleHouseModel") wd2 rfl (v := .int (I 48)) rfl dX10_judge_58 ?_
        refine lv_iload hx hb dX10_judge_61 (lv_at hl 1 rfl) ?_
        refine lv_if_eq (tgt := 70) hx hb dX10_judge_63 (by decide) (fun c_63 => ?_) (fun c_63 => ?_)
        · refine lv_iconst (v := 1) hx hb dX10_judge_70 (by decide) ?_
          refine lv_iadd hx hb dX10_judge_71 ?_
          refine r_put C h 0 rfl (Cn := RX10) (T := TX10) (N := 50) rfl hinX10 tyX10 tyX10_ok nmX10 48 (by decide) (index := 276) (ref := "ScaleHouseModel") wd2 rfl rfl (v := .int ((I 48) + 1)) rfl rfl (show 48 < 50 by decide) dX10_judge_72 (fun H locs h => ?_)
          have h : gS G A s (mW G ad (upd (upd I 0 0) 48 ((I 48) + 1)) F rw gd gl) H locs := h
          refine lv_aload_n hx hb dX10_judge_75 rfl (lv_at hl 2 rfl) ?_
          refine lv_dup hx hb dX10_judge_76 rfl ?_
          refine r_get C h 0 rfl (Cn := RX10) (T := TX10) (N := 50) rfl hinX10 49 (by decide) (index := 279) (ref := "ScaleHouseModel") wd3 rfl (v := .int (I 49)) rfl dX10_judge_77 ?_
          refine lv_iload hx hb dX10_judge_80 (lv_at hl 0 rfl) ?_
          refine lv_if_eq (tgt := 89) hx hb dX10_judge_82 (by decide) (fun c_82 => ?_) (fun c_82 => ?_)
          · refine lv_iconst (v := 1) hx hb dX10_judge_89 (by decide) ?_
            refine lv_iadd hx hb dX10_judge_90 ?_
            refine r_put C h 0 rfl (Cn := RX10) (T := TX10) (N := 50) rfl hinX10 tyX10 tyX10_ok nmX10 49 (by decide) (index := 279) (ref := "ScaleHouseModel") wd3 rfl rfl (v := .int ((I 49) + 1)) rfl rfl (show 49 < 50 by decide) dX10_judge_91 (fun H locs h => ?_)
            have h : gS G A s (mW G ad (upd (upd (upd I 0 0) 48 ((I 48) + 1)) 49 ((I 49) + 1)) F rw gd gl) H locs := h
            refine lv_iload hx hb dX10_judge_94 (lv_at hl 1 rfl) ?_
            refine lv_if_eq (tgt := 108) hx hb dX10_judge_96 (by decide) (fun c_96 => ?_) (fun c_96 => ?_)
            · refine lv_iload hx hb dX10_judge_108 (lv_at hl 0 rfl) ?_
              refine lv_if_eq (tgt := 117) hx hb dX10_judge_110 (by decide) (fun c_110 => ?_) (fun c_110 => ?_)
              · refine lv_iload hx hb dX10_judge_117 (lv_at hl 1 rfl) ?_
                refine lv_if_eq (tgt := 126) hx hb dX10_judge_119 (by decide) (fun c_119 => ?_) (fun c_119 => ?_)
                · refine lv_iconst (v := 3) hx hb dX10_judge_126 (by decide) ?_
                  refine lv_istore (lv' := [(6, .int 3), (5, .int (mIsNear (upd I 0 0) y t)), (4, .int (mIsNear (upd I 0 0) x t)), (0, .ref (ad 0)), (1, .int x), (2, .int y), (3, .int t)]) hx hb dX10_judge_127 hl (by decide) rfl (fun ls hl => ?_)
                  refine lv_aload_n hx hb dX10_judge_129 rfl (lv_at hl 3 rfl) ?_
                  refine lv_iload hx hb dX10_judge_130 (lv_at hl 0 rfl) ?_
                  refine lv_iconst (v := 1) hx hb dX10_judge_132 (by decide) ?_
                  refine lv_icmp_ne (tgt := 140) hx hb dX10_judge_133 (by decide) (fun c_133 => ?_) (fun c_133 => ?_)
                  · refine lv_iload hx hb dX10_judge_140 (lv_at hl 0 rfl) ?_
                    refine lv_iconst (v := 2) hx hb dX10_judge_142 (by decide) ?_
                    refine lv_icmp_ne (tgt := 150) hx hb dX10_judge_143 (by decide) (fun c_143 => ?_) (fun c_143 => ?_)
                    · refine lv_iload_n hx hb dX10_judge_150 rfl (lv_at hl 6 rfl) ?_
                      refine r_put C h 0 rfl (Cn := RX10) (T := TX10) (N := 50) rfl hinX10 tyX10 tyX10_ok nmX10 47 (by decide) (index := 103) (ref := "ScaleHouseModel") wd4 rfl rfl (v := .int t) rfl rfl (show 47 < 50 by decide) dX10_judge_151 (fun H locs h => ?_)
                      have h : gS G A s (mW G ad (upd (upd (upd (upd I 0 0) 48 ((I 48) + 1)) 49 ((I 49) + 1)) 47 t) F rw gd gl) H locs := h
                      refine lv_iload hx hb dX10_judge_154 (lv_at hl 0 rfl) ?_
                      exact r_iret C h hr hlk (Nat.zero_le _) (Nat.zero_le _) () (by simp only [mJudge, if_neg c_13, if_neg c_24, if_neg c_35, if_pos c_63, if_pos c_82]) (by simp only [mJudge, if_neg c_13, if_neg c_24, if_neg c_35, if_pos c_63, if_pos c_82]) dX10_judge_156
                    · exact absurd c_143 (by decide)
                  · exact absurd c_133 (by decide)
                · exact absurd c_63 c_119
              · exact absurd c_82 c_110
            · exact absurd c_63 c_96
          · refine lv_iconst (v := 0) hx hb dX10_judge_85 (by decide) ?_
            refine lv_goto (tgt := 90) hx hb dX10_judge_86 (by decide) ?_
            refine lv_iadd hx hb dX10_judge_90 ?_
            refine r_put C h 0 rfl (Cn := RX10) (T := TX10) (N := 50) rfl hinX10 tyX10 tyX10_ok nmX10 49 (by decide) (index := 279) (ref := "ScaleHouseModel") wd3 rfl rfl (v := .int ((I 49) + 0)) rfl rfl (show 49 < 50 by decide) dX10_judge_91 (fun H locs h => ?_)
            have h : gS G A s (mW G ad (upd (upd (upd I 0 0) 48 ((I 48) + 1)) 49 ((I 49) + 0)) F rw gd gl) H locs := h
            refine lv_iload hx hb dX10_judge_94 (lv_at hl 1 rfl) ?_
            refine lv_if_eq (tgt := 108) hx hb dX10_judge_96 (by decide) (fun c_96 => ?_) (fun c_96 => ?_)
            · refine lv_iload hx hb dX10_judge_108 (lv_at hl 0 rfl) ?_
              refine lv_if_eq (tgt := 117) hx hb dX10_judge_110 (by decide) (fun c_110 => ?_) (fun c_110 => ?_)
              · exact absurd c_110 c_82
              · refine lv_iconst (v := 1) hx hb dX10_judge_113 (by decide) ?_
                refine lv_goto (tgt := 127) hx hb dX10_judge_114 (by decide) ?_
                refine lv_istore (lv' := [(6, .int 1), (5, .int (mIsNear (upd I 0 0) y t)), (4, .int (mIsNear (upd I 0 0) x t)), (0, .ref (ad 0)), (1, .int x), (2, .int y), (3, .int t)]) hx hb dX10_judge_127 hl (by decide) rfl (fun ls hl => ?_)
                refine lv_aload_n hx hb dX10_judge_129 rfl (lv_at hl 3 rfl) ?_
                refine lv_iload hx hb dX10_judge_130 (lv_at hl 0 rfl) ?_
                refine lv_iconst (v := 1) hx hb dX10_judge_132 (by decide) ?_
                refine lv_icmp_ne (tgt := 140) hx hb dX10_judge_133 (by decide) (fun c_133 => ?_) (fun c_133 => ?_)
                · exact absurd c_133 (by decide)
                · refine lv_iload_n hx hb dX10_judge_136 rfl (lv_at hl 5 rfl) ?_
                  refine lv_goto (tgt := 151) hx hb dX10_judge_137 (by decide) ?_
                  refine r_put C h 0 rfl (Cn := RX10) (T := TX10) (N := 50) rfl hinX10 tyX10 tyX10_ok nmX10 47 (by decide) (index := 103) (ref := "ScaleHouseModel") wd4 rfl rfl (v := .int y) rfl rfl (show 47 < 50 by decide) dX10_judge_151 (fun H locs h => ?_)
                  have h : gS G A s (mW G ad (upd (upd (upd (upd I 0 0) 48 ((I 48) + 1)) 49 ((I 49) + 0)) 47 y) F rw gd gl) H locs := h
                  refine lv_iload hx hb dX10_judge_154 (lv_at hl 0 rfl) ?_
                  exact r_iret C h hr hlk (Nat.zero_le _) (Nat.zero_le _) () (by simp only [mJudge, if_neg c_13, if_neg c_24, if_neg c_35, if_pos c_63, if_neg c_82]) (by simp only [mJudge, if_neg c_13, if_neg c_24, if_neg c_35, if_pos c_63, if_neg c_82]) dX10_judge_156
            · exact absurd c_63 c_96
        · refine lv_iconst (v := 0) hx hb dX10_judge_66 (by decide) ?_
          refine lv_goto (tgt := 71) hx hb dX10_judge_67 (by decide) ?_
          refine lv_iadd hx hb dX10_judge_71 ?_
          refine r_put C h 0 rfl (Cn := RX10) (T := TX10) (N := 50) rfl hinX10 tyX10 tyX10_ok nmX10 48 (by decide) (index := 276) (ref := "ScaleHouseModel") wd2 rfl rfl (v := .int ((I 48) + 0)) rfl rfl (show 48 < 50 by decide) dX10_judge_72 (fun H locs h => ?_)
          have h : gS G A s (mW G ad (upd (upd I 0 0) 48 ((I 48) + 0)) F rw gd gl) H locs := h
          refine lv_aload_n hx hb dX10_judge_75 rfl (lv_at hl 2 rfl) ?_
          refine lv_dup hx hb dX10_judge_76 rfl ?_
          refine r_get C h 0 rfl (Cn := RX10) (T := TX10) (N := 50) rfl hinX10 49 (by decide) (index := 279) (ref := "ScaleHouseModel") wd3 rfl (v := .int (I 49)) rfl dX10_judge_77 ?_
          refine lv_iload hx hb dX10_judge_80 (lv_at hl 0 rfl) ?_
          refine lv_if_eq (tgt := 89) hx hb dX10_judge_82 (by decide) (fun c_82 => ?_) (fun c_82 => ?_)
          · refine lv_iconst (v := 1) hx hb dX10_judge_89 (by decide) ?_
            refine lv_iadd hx hb dX10_judge_90 ?_
            refine r_put C h 0 rfl (Cn := RX10) (T := TX10) (N := 50) rfl hinX10 tyX10 tyX10_ok nmX10 49 (by decide) (index := 279) (ref := "ScaleHouseModel") wd3 rfl rfl (v := .int ((I 49) + 1)) rfl rfl (show 49 < 50 by decide) dX10_judge_91 (fun H locs h => ?_)
            have h : gS G A s (mW G ad (upd (upd (upd I 0 0) 48 ((I 48) + 0)) 49 ((I 49) + 1)) F rw gd gl) H locs := h
            refine lv_iload hx hb dX10_judge_94 (lv_at hl 1 rfl) ?_
            refine lv_if_eq (tgt := 108) hx hb dX10_judge_96 (by decide) (fun c_96 => ?_) (fun c_96 => ?_)
            · exact absurd c_96 c_63
            · refine lv_iload hx hb dX10_judge_99 (lv_at hl 0 rfl) ?_
              refine lv_if_eq (tgt := 108) hx hb dX10_judge_101 (by decide) (fun c_101 => ?_) (fun c_101 => ?_)
              · refine lv_iload hx hb dX10_judge_108 (lv_at hl 0 rfl) ?_
                refine lv_if_eq (tgt := 117) hx hb dX10_judge_110 (by decide) (fun c_110 => ?_) (fun c_110 => ?_)
                · refine lv_iload hx hb dX10_judge_117 (lv_at hl 1 rfl) ?_
                  refine lv_if_eq (tgt := 126) hx hb dX10_judge_119 (by decide) (fun c_119 => ?_) (fun c_119 => ?_)
                  · exact absurd c_119 c_63
                  · refine lv_iconst (v := 2) hx hb dX10_judge_122 (by decide) ?_
                    refine lv_goto (tgt := 127) hx hb dX10_judge_123 (by decide) ?_
                    refine lv_istore (lv' := [(6, .int 2), (5, .int (mIsNear (upd I 0 0) y t)), (4, .int (mIsNear (upd I 0 0) x t)), (0, .ref (ad 0)), (1, .int x), (2, .int y), (3, .int t)]) hx hb dX10_judge_127 hl (by decide) rfl (fun ls hl => ?_)
                    refine lv_aload_n hx hb dX10_judge_129 rfl (lv_at hl 3 rfl) ?_
                    refine lv_iload hx hb dX10_judge_130 (lv_at hl 0 rfl) ?_
                    refine lv_iconst (v := 1) hx hb dX10_judge_132 (by decide) ?_
                    refine lv_icmp_ne (tgt := 140) hx hb dX10_judge_133 (by decide) (fun c_133 => ?_) (fun c_133 => ?_)
                    · refine lv_iload hx hb dX10_judge_140 (lv_at hl 0 rfl) ?_
                      refine lv_iconst (v := 2) hx hb dX10_judge_142 (by decide) ?_
                      refine lv_icmp_ne (tgt := 150) hx hb dX10_judge_143 (by decide) (fun c_143 => ?_) (fun c_143 => ?_)
                      · exact absurd c_143 (by decide)
                      · refine lv_iload_n hx hb dX10_judge_146 rfl (lv_at hl 4 rfl) ?_
                        refine lv_goto (tgt := 151) hx hb dX10_judge_147 (by decide) ?_
                        refine r_put C h 0 rfl (Cn := RX10) (T := TX10) (N := 50) rfl hinX10 tyX10 tyX10_ok nmX10 47 (by decide) (index := 103) (ref := "ScaleHouseModel") wd4 rfl rfl (v := .int x) rfl rfl (show 47 < 50 by decide) dX10_judge_151 (fun H locs h => ?_)
                        have h : gS G A s (mW G ad (upd (upd (upd (upd I 0 0) 48 ((I 48) + 0)) 49 ((I 49) + 1)) 47 x) F rw gd gl) H locs := h
                        refine lv_iload hx hb dX10_judge_154 (lv_at hl 0 rfl) ?_
                        exact r_iret C h hr hlk (Nat.zero_le _) (Nat.zero_le _) () (by simp only [mJudge, if_neg c_13, if_neg c_24, if_neg c_35, if_neg c_63, if_pos c_82]) (by simp only [mJudge, if_neg c_13, if_neg c_24, if_neg c_35, if_neg c_63, if_pos c_82]) dX10_judge_156
                    · exact absurd c_133 (by decide)
                · exact absurd c_82 c_110
              · exact absurd c_82 c_101
          · refine lv_iconst (v := 0) hx hb dX10_judge_85 (by decide) ?_
            refine lv_goto (tgt := 90) hx hb dX10_judge_86 (by decide) ?_
            refine lv_iadd hx hb dX10_judge_90 ?_
            refine r_put C h 0 rfl (Cn := RX10) (T := TX10) (N := 50) rfl hinX10 tyX10 tyX10_ok nmX10 49 (by decide) (index := 279) (ref := "ScaleHouseModel") wd3 rfl rfl (v := .int ((I 49) + 0)) rfl rfl (show 49 < 50 by decide) dX10_judge_91 (fun H locs h => ?_)
            have h : gS G A s (mW G ad (upd (upd (upd I 0 0) 48 ((I 48) + 0)) 49 ((I 49) + 0)) F rw gd gl) H locs := h
            refine lv_iload hx hb dX10_judge_94 (lv_at hl 1 rfl) ?_
            refine lv_if_eq (tgt := 108) hx hb dX10_judge_96 (by decide) (fun c_96 => ?_) (fun c_96 => ?_)
            · exact absurd c_96 c_63
            · refine lv_iload hx hb dX10_judge_99 (lv_at hl 0 rfl) ?_
              refine lv_if_eq (tgt := 108) hx hb dX10_judge_101 (by decide) (fun c_101 => ?_) (fun c_101 => ?_)
              · exact absurd c_101 c_82
              · refine lv_iconst (v := 0) hx hb dX10_judge_104 (by decide) ?_
                refine lv_goto (tgt := 127) hx hb dX10_judge_105 (by decide) ?_
                refine lv_istore (lv' := [(6, .int 0), (5, .int (mIsNear (upd I 0 0) y t)), (4, .int (mIsNear (upd I 0 0) x t)), (0, .ref (ad 0)), (1, .int x), (2, .int y), (3, .int t)]) hx hb dX10_judge_127 hl (by decide) rfl (fun ls hl => ?_)
                refine lv_aload_n hx hb dX10_judge_129 rfl (lv_at hl 3 rfl) ?_
                refine lv_iload hx hb dX10_judge_130 (lv_at hl 0 rfl) ?_
                refine lv_iconst (v := 1) hx hb dX10_judge_132 (by decide) ?_
                refine lv_icmp_ne (tgt := 140) hx hb dX10_judge_133 (by decide) (fun c_133 => ?_) (fun c_133 => ?_)
                · refine lv_iload hx hb dX10_judge_140 (lv_at hl 0 rfl) ?_
                  refine lv_iconst (v := 2) hx hb dX10_judge_142 (by decide) ?_
                  refine lv_icmp_ne (tgt := 150) hx hb dX10_judge_143 (by decide) (fun c_143 => ?_) (fun c_143 => ?_)
                  · refine lv_iload_n hx hb dX10_judge_150 rfl (lv_at hl 6 rfl) ?_
                    refine r_put C h 0 rfl (Cn := RX10) (T := TX10) (N := 50) rfl hinX10 tyX10 tyX10_ok nmX10 47 (by decide) (index := 103) (ref := "ScaleHouseModel") wd4 rfl rfl (v := .int t) rfl rfl (show 47 < 50 by decide) dX10_judge_151 (fun H locs h => ?_)
                    have h : gS G A s (mW G ad (upd (upd (upd (upd I 0 0) 48 ((I 48) + 0)) 49 ((I 49) + 0)) 47 t) F rw gd gl) H locs := h
                    refine lv_iload hx hb dX10_judge_154 (lv_at hl 0 rfl) ?_
                    exact r_iret C h hr hlk (Nat.zero_le _) (Nat.zero_le _) () (by simp only [mJudge, if_neg c_13, if_neg c_24, if_neg c_35, if_neg c_63, if_neg c_82]) (by simp only [mJudge, if_neg c_13, if_neg c_24, if_neg c_35, if_neg c_63, if_neg c_82]) dX10_judge_156
                  · exact absurd c_143 (by decide)
                · exact absurd c_133 (by decide)
      · refine lv_iconst (v := -1) hx hb dX10_judge_38 (by decide) ?_
        exact r_iret C h hr hlk (Nat.zero_le _) (Nat.zero_le _) () (by simp only [mJudge, if_neg c_13, if_neg c_24, if_pos c_35]) (by simp only [mJudge, if_neg c_13, if_neg c_24, if_pos c_35]) dX10_judge_39

def mCount (I : Nat → Int32) (F : Nat → Nat → Int32) (x : Int32) : Int32 × (Nat → Int32) :=
  if x = 0 then ((I 24), (upd I 0 0))
  else if x = 1 then ((I 25), (upd I 0 0))
    else if x = 2 then ((I 27), (upd I 0 0))
      else if x = 3 then ((I 28), (upd I 0 0))
        else if x = 4 then ((I 29), (upd I 0 0))
          else if x = 5 then ((F 40 0), (upd I 0 0))
            else if x = 6 then ((F 40 1), (upd I 0 0))
              else if x = 7 then ((I 23), (upd I 0 0))
                else if x = 8 then ((I 47), (upd I 0 0))
                  else if x = 9 then ((I 48), (upd I 0 0))
                    else if x = 10 then ((I 49), (upd I 0 0))
                      else ((-1), (upd I 0 0))
set_option maxHeartbeats 4000000 in
set_option maxRecDepth 100000 in
theorem m_count (l : Launch) (G : gG) (ad : Nat → Nat) (I : Nat → Int32) (F : Nat → Nat → Int32) (rw : Nat) (gd gl : Int64) (x : Int32) : cM l yX10_count wsX10_count 0 0 (0) (0) G [.ref (ad 0), .int x] (mW G ad I F rw gd gl) (qI G (S := Unit) (fun r _ => r = (mCount I F x).1) (fun _ => mW G ad ((mCount I F x).2) F rw gd gl)) := by
  refine o_M (cc := cX10_count) (maxL := 2) (ret := (some .int)) (own := RX10) (by decide +kernel) rfl rfl (Nat.le_of_ble_eq_true rfl) ?_
  intro p e s m below meth c A ls H locs hA C h hr hlk hnm hl
  have hx := C.1.1.1
  have hb := C.1.1.2.1
  have hl : lv_has ls 2 [(0, .ref (ad 0)), (1, .int x)] := hl
  have wd0 : Cond.fieldLink RX10 106 "ScaleHouseModel" "thrown" "I" ∈ wsX10_count := by decide +kernel
  have hinX10 : ∀ w ∈ wsX100, w ∈ wsX10_count := fun _ h => List.mem_cons_of_mem _ (List.mem_append_right _ h)
  have wd1 : Cond.fieldLink RX10 202 "ScaleHouseModel" "now" "I" ∈ wsX10_count := by decide +kernel
  have wd2 : Cond.fieldLink RX10 199 "ScaleHouseModel" "laws" "I" ∈ wsX10_count := by decide +kernel
  have wd3 : Cond.fieldLink RX10 219 "ScaleHouseModel" "logs" "I" ∈ wsX10_count := by decide +kernel
  have wd4 : Cond.fieldLink RX10 241 "ScaleHouseModel" "lines" "I" ∈ wsX10_count := by decide +kernel
  have wd5 : Cond.fieldLink RX10 244 "ScaleHouseModel" "coins" "I" ∈ wsX10_count := by decide +kernel
  have wd6 : Cond.fieldLink RX10 86 "ScaleHouseModel" "rows" "[I" ∈ wsX10_count := by decide +kernel
  have wd7 : Cond.fieldLink RX10 109 "ScaleHouseModel" "length" "I" ∈ wsX10_count := by decide +kernel
  have wd8 : Cond.fieldLink RX10 103 "ScaleHouseModel" "stood" "I" ∈ wsX10_count := by decide +kernel
  have wd9 : Cond.fieldLink RX10 276 "ScaleHouseModel" "buyerOff" "I" ∈ wsX10_count := by decide +kernel
  have wd10 : Cond.fieldLink RX10 279 "ScaleHouseModel" "sellerOff" "I" ∈ wsX10_count := by decide +kernel
  refine lv_aload_n hx hb dX10_count_0 rfl (lv_at hl 0 rfl) ?_
  refine lv_iconst (v := 0) hx hb dX10_count_1 (by decide) ?_
  refine r_put C h 0 rfl (Cn := RX10) (T := TX10) (N := 50) rfl hinX10 tyX10 tyX10_ok nmX10 0 (by decide) (index := 106) (ref := "ScaleHouseModel") wd0 rfl rfl (v := .int 0) rfl rfl (show 0 < 50 by decide) dX10_count_2 (fun H locs h => ?_)
  have h : gS G A s (mW G ad (upd I 0 0) F rw gd gl) H locs := h
  refine lv_iload_n hx hb dX10_count_5 rfl (lv_at hl 1 rfl) ?_
  by_cases c_6_0 : x = 0
  · refine lv_tableIn (off := 58) (tgt := 64) hx hb dX10_count_6 (by rw [c_6_0]; decide) (by rw [c_6_0]; decide) (by rw [c_6_0]; decide) (by decide) ?_
    refine lv_aload_n hx hb dX10_count_64 rfl (lv_at hl 0 rfl) ?_
    refine r_get C h 0 rfl (Cn := RX10) (T := TX10) (N := 50) rfl hinX10 24 (by decide) (index := 202) (ref := "ScaleHouseModel") wd1 rfl (v := .int (I 24)) rfl dX10_count_65 ?_
    exact r_iret C h hr hlk (Nat.zero_le _) (Nat.zero_le _) () (by simp only [mCount, if_pos c_6_0]) (by simp only [mCount, if_pos c_6_0]) dX10_count_68
  by_cases c_6_1 : x = 1
  · refine lv_tableIn (off := 63) (tgt := 69) hx hb dX10_count_6 (by rw [c_6_1]; decide) (by rw [c_6_1]; decide) (by rw [c_6_1]; decide) (by decide) ?_
    refine lv_aload_n hx hb dX10_count_69 rfl (lv_at hl 0 rfl) ?_
    refine r_get C h 0 rfl (Cn := RX10) (T := TX10) (N := 50) rfl hinX10 25 (by decide) (index := 199) (ref := "ScaleHouseModel") wd2 rfl (v := .int (I 25)) rfl dX10_count_70 ?_
    exact r_iret C h hr hlk (Nat.zero_le _) (Nat.zero_le _) () (by simp only [mCount, if_neg c_6_0, if_pos c_6_1]) (by simp only [mCount, if_neg c_6_0, if_pos c_6_1]) dX10_count_73
  by_cases c_6_2 : x = 2
  · refine lv_tableIn (off := 68) (tgt := 74) hx hb dX10_count_6 (by rw [c_6_2]; decide) (by rw [c_6_2]; decide) (by rw [c_6_2]; decide) (by decide) ?_
    refine lv_aload_n hx hb dX10_count_74 rfl (lv_at hl 0 rfl) ?_
    refine r_get C h 0 rfl (Cn := RX10) (T := TX10) (N := 50) rfl hinX10 27 (by decide) (index := 219) (ref := "ScaleHouseModel") wd3 rfl (v := .int (I 27)) rfl dX10_count_75 ?_
    exact r_iret C h hr hlk (Nat.zero_le _) (Nat.zero_le _) () (by simp only [mCount, if_neg c_6_0, if_neg c_6_1, if_pos c_6_2]) (by simp only [mCount, if_neg c_6_0, if_neg c_6_1, if_pos c_6_2]) dX10_count_78
  by_cases c_6_3 : x = 3
  · refine lv_tableIn (off := 73) (tgt := 79) hx hb dX10_count_6 (by rw [c_6_3]; decide) (by rw [c_6_3]; decide) (by rw [c_6_3]; decide) (by decide) ?_
    refine lv_aload_n hx hb dX10_count_79 rfl (lv_at hl 0 rfl) ?_
    refine r_get C h 0 rfl (Cn := RX10) (T := TX10) (N := 50) rfl hinX10 28 (by decide) (index := 241) (ref := "ScaleHouseModel") wd4 rfl (v := .int (I 28)) rfl dX10_count_80 ?_
    exact r_iret C h hr hlk (Nat.zero_le _) (Nat.zero_le _) () (by simp only [mCount, if_neg c_6_0, if_neg c_6_1, if_neg c_6_2, if_pos c_6_3]) (by simp only [mCount, if_neg c_6_0, if_neg c_6_1, if_neg c_6_2, if_pos c_6_3]) dX10_count_83
  by_cases c_6_4 : x = 4
  · refine lv_tableIn (off := 78) (tgt := 84) hx hb dX10_count_6 (by rw [c_6_4]; decide) (by rw [c_6_4]; decide) (by rw [c_6_4]; decide) (by decide) ?_
    refine lv_aload_n hx hb dX10_count_84 rfl (lv_at hl 0 rfl) ?_
    refine r_get C h 0 rfl (Cn := RX10) (T := TX10) (N := 50) rfl hinX10 29 (by decide) (index := 244) (ref := "ScaleHouseModel") wd5 rfl (v := .int (I 29)) rfl dX10_count_85 ?_
    exact r_iret C h hr hlk (Nat.zero_le _) (Nat.zero_le _) () (by simp only [mCount, if_neg c_6_0, if_neg c_6_1, if_neg c_6_2, if_neg c_6_3, if_pos c_6_4]) (by simp only [mCount, if_neg c_6_0, if_neg c_6_1, if_neg c_6_2, if_neg c_6_3, if_pos c_6_4]) dX10_count_88
  by_cases c_6_5 : x = 5
  · refine lv_tableIn (off := 83) (tgt := 89) hx hb dX10_count_6 (by rw [c_6_5]; decide) (by rw [c_6_5]; decide) (by rw [c_6_5]; decide) (by decide) ?_
    refine lv_aload_n hx hb dX10_count_89 rfl (lv_at hl 0 rfl) ?_
    refine r_get C h 0 rfl (Cn := RX10) (T := TX10) (N := 50) rfl hinX10 40 (by decide) (index := 86) (ref := "ScaleHouseModel") wd6 rfl (v := .ref (ad 40)) rfl dX10_count_90 ?_
    refine lv_iconst (v := 0) hx hb dX10_count_93 (by decide) ?_
    refine r_iald C h 25 rfl (i := 0) (by unfold vp_in; decide) dX10_count_94 ?_
    refine lv_cgi (y := (F 40 0)) (rfl) ?_
    exact r_iret C h hr hlk (Nat.zero_le _) (Nat.zero_le _) () (by simp only [mCount, if_neg c_6_0, if_neg c_6_1, if_neg c_6_2, if_neg c_6_3, if_neg c_6_4, if_pos c_6_5]) (by simp only [mCount, if_neg c_6_0, if_neg c_6_1, if_neg c_6_2, if_neg c_6_3, if_neg c_6_4, if_pos c_6_5]) dX10_count_95
  by_cases c_6_6 : x = 6
  · refine lv_tableIn (off := 90) (tgt := 96) hx hb dX10_count_6 (by rw [c_6_6]; decide) (by rw [c_6_6]; decide) (by rw [c_6_6]; decide) (by decide) ?_
    refine lv_aload_n hx hb dX10_count_96 rfl (lv_at hl 0 rfl) ?_
    refine r_get C h 0 rfl (Cn := RX10) (T := TX10) (N := 50) rfl hinX10 40 (by decide) (index := 86) (ref := "ScaleHouseModel") wd6 rfl (v := .ref (ad 40)) rfl dX10_count_97 ?_
    refine lv_iconst (v := 1) hx hb dX10_count_100 (by decide) ?_
    refine r_iald C h 25 rfl (i := 1) (by unfold vp_in; decide) dX10_count_101 ?_
    refine lv_cgi (y := (F 40 1)) (rfl) ?_
    exact r_iret C h hr hlk (Nat.zero_le _) (Nat.zero_le _) () (by simp only [mCount, if_neg c_6_0, if_neg c_6_1, if_neg c_6_2, if_neg c_6_3, if_neg c_6_4, if_neg c_6_5, if_pos c_6_6]) (by simp only [mCount, if_neg c_6_0, if_neg c_6_1, if_neg c_6_2, if_neg c_6_3, if_neg c_6_4, if_neg c_6_5, if_pos c_6_6]) dX10_count_102
  by_cases c_6_7 : x = 7
  · refine lv_tableIn (off := 97) (tgt := 103) hx hb dX10_count_6 (by rw [c_6_7]; decide) (by rw [c_6_7]; decide) (by rw [c_6_7]; decide) (by decide) ?_
    refine lv_aload_n hx hb dX10_count_103 rfl (lv_at hl 0 rfl) ?_
    refine r_get C h 0 rfl (Cn := RX10) (T := TX10) (N := 50) rfl hinX10 23 (by decide) (index := 109) (ref := "ScaleHouseModel") wd7 rfl (v := .int (I 23)) rfl dX10_count_104 ?_
    exact r_iret C h hr hlk (Nat.zero_le _) (Nat.zero_le _) () (by simp only [mCount, if_neg c_6_0, if_neg c_6_1, if_neg c_6_2, if_neg c_6_3, if_neg c_6_4, if_neg c_6_5, if_neg c_6_6, if_pos c_6_7]) (by simp only [mCount, if_neg c_6_0, if_neg c_6_1, if_neg c_6_2, if_neg c_6_3, if_neg c_6_4, if_neg c_6_5, if_neg c_6_6, if_pos c_6_7]) dX10_count_107
  by_cases c_6_8 : x = 8
  · refine lv_tableIn (off := 102) (tgt := 108) hx hb dX10_count_6 (by rw [c_6_8]; decide) (by rw [c_6_8]; decide) (by rw [c_6_8]; decide) (by decide) ?_
    refine lv_aload_n hx hb dX10_count_108 rfl (lv_at hl 0 rfl) ?_
    refine r_get C h 0 rfl (Cn := RX10) (T := TX10) (N := 50) rfl hinX10 47 (by decide) (index := 103) (ref := "ScaleHouseModel") wd8 rfl (v := .int (I 47)) rfl dX10_count_109 ?_
    exact r_iret C h hr hlk (Nat.zero_le _) (Nat.zero_le _) () (by simp only [mCount, if_neg c_6_0, if_neg c_6_1, if_neg c_6_2, if_neg c_6_3, if_neg c_6_4, if_neg c_6_5, if_neg c_6_6, if_neg c_6_7, if_pos c_6_8]) (by simp only [mCount, if_neg c_6_0, if_neg c_6_1, if_neg c_6_2, if_neg c_6_3, if_neg c_6_4, if_neg c_6_5, if_neg c_6_6, if_neg c_6_7, if_pos c_6_8]) dX10_count_112
  by_cases c_6_9 : x = 9
  · refine lv_tableIn (off := 107) (tgt := 113) hx hb dX10_count_6 (by rw [c_6_9]; decide) (by rw [c_6_9]; decide) (by rw [c_6_9]; decide) (by decide) ?_
    refine lv_aload_n hx hb dX10_count_113 rfl (lv_at hl 0 rfl) ?_
    refine r_get C h 0 rfl (Cn := RX10) (T := TX10) (N := 50) rfl hinX10 48 (by decide) (index := 276) (ref := "ScaleHouseModel") wd9 rfl (v := .int (I 48)) rfl dX10_count_114 ?_
    exact r_iret C h hr hlk (Nat.zero_le _) (Nat.zero_le _) () (by simp only [mCount, if_neg c_6_0, if_neg c_6_1, if_neg c_6_2, if_neg c_6_3, if_neg c_6_4, if_neg c_6_5, if_neg c_6_6, if_neg c_6_7, if_neg c_6_8, if_pos c_6_9]) (by simp only [mCount, if_neg c_6_0, if_neg c_6_1, if_neg c_6_2, if_neg c_6_3, if_neg c_6_4, if_neg c_6_5, if_neg c_6_6, if_neg c_6_7, if_neg c_6_8, if_pos c_6_9]) dX10_count_117
  by_cases c_6_10 : x = 10
  · refine lv_tableIn (off := 112) (tgt := 118) hx hb dX10_count_6 (by rw [c_6_10]; decide) (by rw [c_6_10]; decide) (by rw [c_6_10]; decide) (by decide) ?_
    refine lv_aload_n hx hb dX10_count_118 rfl (lv_at hl 0 rfl) ?_
    refine r_get C h 0 rfl (Cn := RX10) (T := TX10) (N := 50) rfl hinX10 49 (by decide) (index := 279) (ref := "ScaleHouseModel") wd10 rfl (v := .int (I 49)) rfl dX10_count_119 ?_
    exact r_iret C h hr hlk (Nat.zero_le _) (Nat.zero_le _) () (by simp only [mCount, if_neg c_6_0, if_neg c_6_1, if_neg c_6_2, if_neg c_6_3, if_neg c_6_4, if_neg c_6_5, if_neg c_6_6, if_neg c_6_7, if_neg c_6_8, if_neg c_6_9, if_pos c_6_10]) (by simp only [mCount, if_neg c_6_0, if_neg c_6_1, if_neg c_6_2, if_neg c_6_3, if_neg c_6_4, if_neg c_6_5, if_neg c_6_6, if_neg c_6_7, if_neg c_6_8, if_neg c_6_9, if_pos c_6_10]) dX10_count_122
  refine lv_tableOut (tgt := 123) hx hb dX10_count_6 (by have z0 := lv_neT c_6_0 (a := 0) rfl; have z1 := lv_neT c_6_1 (a := 1) rfl; have z2 := lv_neT c_6_2 (a := 2) rfl; have z3 := lv_neT c_6_3 (a := 3) rfl; have z4 := lv_neT c_6_4 (a := 4) rfl; have z5 := lv_neT c_6_5 (a := 5) rfl; have z6 := lv_neT c_6_6 (a := 6) rfl; have z7 := lv_neT c_6_7 (a := 7) rfl; have z8 := lv_neT c_6_8 (a := 8) rfl; have z9 := lv_neT c_6_9 (a := 9) rfl; have z10 := lv_neT c_6_10 (a := 10) rfl; omega) (by decide) ?_
  refine lv_iconst (v := -1) hx hb dX10_count_123 (by decide) ?_
  exact r_iret C h hr hlk (Nat.zero_le _) (Nat.zero_le _) () (by simp only [mCount, if_neg c_6_0, if_neg c_6_1, if_neg c_6_2, if_neg c_6_3, if_neg c_6_4, if_neg c_6_5, if_neg c_6_6, if_neg c_6_7, if_neg c_6_8, if_neg c_6_9, if_neg c_6_10]) (by simp only [mCount, if_neg c_6_0, if_neg c_6_1, if_neg c_6_2, if_neg c_6_3, if_neg c_6_4, if_neg c_6_5, if_neg c_6_6, if_neg c_6_7, if_neg c_6_8, if_neg c_6_9, if_neg c_6_10]) dX10_count_124

def mPrice (I : Nat → Int32) (F : Nat → Nat → Int32) (x y : Int32) : Int32 × (Nat → Int32) × (Nat → Nat → Int32) :=
  if (mIn x 0 5) = 0 then (0, (upd I 0 0), F)
  else if (mIn y 0 20) = 0 then (0, (upd I 0 0), F)
    else (1, (upd I 0 0), (va_up F 19 (upd (F 19) x.toNatClampNeg y)))
set_option maxHeartbeats 4000000 in
set_option maxRecDepth 100000 in
theorem m_price (l : Launch) (G : gG) (ad : Nat → Nat) (I : Nat → Int32) (F : Nat → Nat → Int32) (rw : Nat) (gd gl : Int64) (x y : Int32) : cM l yX10_price wsX10_price 1 25 (0) (0) G [.ref (ad 0), .int x, .int y] (mW G ad I F rw gd gl) (qI G (S := Unit) (fun r _ => r = (mPrice I F x y).1) (fun _ => mW G ad ((mPrice I F x y).2.1) ((mPrice I F x y).2.2) rw gd gl)) := by
  refine o_M (cc := cX10_price) (maxL := 3) (ret := (some .boolean)) (own := RX10) (by decide +kernel) rfl rfl (Nat.le_of_ble_eq_true rfl) ?_
  intro p e s m below meth c A ls H locs hA C h hr hlk hnm hl
  have hx := C.1.1.1
  have hb := C.1.1.2.1
  have hl : lv_has ls 3 [(0, .ref (ad 0)), (1, .int x), (2, .int y)] := hl
  have wd0 : Cond.fieldLink RX10 106 "ScaleHouseModel" "thrown" "I" ∈ wsX10_price := by decide +kernel
  have hinX10 : ∀ w ∈ wsX100, w ∈ wsX10_price := fun _ h => List.mem_cons_of_mem _ (List.mem_append_right _ h)
  have wd1 : Cond.fieldLink RX10 65 "ScaleHouseModel" "price" "[I" ∈ wsX10_price := by decide +kernel
  refine lv_aload_n hx hb dX10_price_0 rfl (lv_at hl 0 rfl) ?_
  refine lv_iconst (v := 0) hx hb dX10_price_1 (by decide) ?_
  refine r_put C h 0 rfl (Cn := RX10) (T := TX10) (N := 50) rfl hinX10 tyX10 tyX10_ok nmX10 0 (by decide) (index := 106) (ref := "ScaleHouseModel") wd0 rfl rfl (v := .int 0) rfl rfl (show 0 < 50 by decide) dX10_price_2 (fun H locs h => ?_)
  have h : gS G A s (mW G ad (upd I 0 0) F rw gd gl) H locs := h
  refine lv_iload_n hx hb dX10_price_5 rfl (lv_at hl 1 rfl) ?_
  refine lv_iconst (v := 0) hx hb dX10_price_6 (by decide) ?_
  refine lv_iconst (v := 5) hx hb dX10_price_7 (by decide) ?_
  have hp : List.Perm (mW G ad (upd I 0 0) F rw gd gl : va_W) ([] ++ ([((ad 0), .inr (10, [.int 0, .ref (ad 1), .ref (ad 2), .ref (ad 3), .ref (ad 4), .ref (ad 5), .ref (ad 6), .ref (ad 7), .ref (ad 8), .ref (ad 9), .ref (ad 10), .ref (ad 11), .ref (ad 12), .ref (ad 13), .ref (ad 14), .ref (ad 15), .ref (ad 16), .ref (ad 17), .ref (ad 18), .ref (ad 19), .ref (ad 20), .ref (ad 21), .ref (ad 22), .int (I 23), .int (I 24), .int (I 25), .int (I 26), .int (I 27), .int (I 28), .int (I 29), .ref rw, .int (I 31), .int (I 32), .int (I 33), .int (I 34), .int (I 35), .long gd, .long gl, .ref (ad 38), .ref (ad 39), .ref (ad 40), .ref (ad 41), .ref (ad 42), .ref (ad 43), .int (I 44), .int (I 45), .int (I 46), .int (I 47), .int (I 48), .int (I 49)])), ((ad 1), .inl (G.2.2 0, 120, .inl (F 1))), ((ad 2), .inl (G.2.2 0, 2400, .inl (F 2))), ((ad 3), .inl (G.2.2 1, 20, .inl (F 3))), ((ad 4), .inl (G.2.2 1, 20, .inl (F 4))), ((ad 5), .inl (G.2.2 1, 20, .inl (F 5))), ((ad 6), .inl (G.2.2 1, 60, .inl (F 6))), ((ad 7), .inl (G.2.2 1, 60, .inl (F 7))), ((ad 8), .inl (G.2.2 1, 60, .inl (F 8))), ((ad 9), .inl (G.2.2 1, 60, .inl (F 9))), ((ad 10), .inl (G.2.2 1, 100, .inl (F 10))), ((ad 11), .inl (G.2.2 1, 100, .inl (F 11))), ((ad 12), .inl (G.2.2 1, 100, .inl (F 12))), ((ad 13), .inl (G.2.2 1, 100, .inl (F 13))), ((ad 14), .inl (G.2.2 1, 100, .inl (F 14))), ((ad 15), .inl (G.2.2 1, 100, .inl (F 15))), ((ad 16), .inl (G.2.2 1, 100, .inl (F 16))), ((ad 17), .inl (G.2.2 1, 100, .inl (F 17))), ((ad 18), .inl (G.2.2 1, 100, .inl (F 18))), ((ad 19), .inl (G.2.2 1, 6, .inl (F 19))), ((ad 20), .inl (G.2.2 1, 20000, .inl (F 20))), ((ad 21), .inl (G.2.2 1, 20000, .inl (F 21))), ((ad 22), .inl (G.2.2 1, 20000, .inl (F 22))), ((ad 38), .inl (G.2.2 1, 40, .inl (F 38))), ((ad 39), .inl (G.2.2 1, 40, .inl (F 39))), ((ad 40), .inl (G.2.2 1, 2, .inl (F 40))), ((ad 41), .inl (G.2.2 1, 20, .inl (F 41))), ((ad 42), .inl (G.2.2 3, 20, .inl (F 42))), ((ad 43), .inl (G.2.2 3, 20, .inl (F 43)))])) := List.Perm.refl _
  refine k_i C h hp (r_runS C h hp (As := [.int x, .int 0, .int 5]) (rest := []) (m_isIn l G x 0 5) (va_cwS 3 C.1.1.2.2.2.2 gX10_price_X10_isIn rfl rfl rfl (by decide +kernel) ⟨Nat.le_of_ble_eq_true rfl, Nat.le_of_ble_eq_true rfl⟩) rfl hl.1 (Nat.le_of_ble_eq_true rfl) dX10_price_8 ⟨Nat.le_of_ble_eq_true rfl, Nat.le_of_ble_eq_true rfl⟩) (fun r_1 u_2 H locs hw_3 h => ?_)
  have h : gS G A s (mW G ad (upd I 0 0) F rw gd gl) H locs := h
  refine W.widen (k := 0) (n := 0) (Nat.le_of_ble_eq_true rfl) (Nat.le_of_ble_eq_true rfl) ?_
  subst hw_3
  refine lv_if_eq (tgt := 24) hx hb dX10_price_11 (by decide) (fun c_11 => ?_) (fun c_11 => ?_)
  · refine lv_iconst (v := 0) hx hb dX10_price_24 (by decide) ?_
    exact r_zret C h hr hlk (Nat.zero_le _) (Nat.zero_le _) (Or.inl rfl) () (by simp only [mPrice, if_pos c_11]) (by simp only [mPrice, if_pos c_11]) dX10_price_25
  · refine lv_iload_n hx hb dX10_price_14 rfl (lv_at hl 2 rfl) ?_
    refine lv_iconst (v := 0) hx hb dX10_price_15 (by decide) ?_
    refine lv_bipush (v := 20) hx hb dX10_price_16 (by decide) ?_
    have hp : List.Perm (mW G ad (upd I 0 0) F rw gd gl : va_W) ([] ++ ([((ad 0), .inr (10, [.int 0, .ref (ad 1), .ref (ad 2), .ref (ad 3), .ref (ad 4), .ref (ad 5), .ref (ad 6), .ref (ad 7), .ref (ad 8), .ref (ad 9), .ref (ad 10), .ref (ad 11), .ref (ad 12), .ref (ad 13), .ref (ad 14), .ref (ad 15), .ref (ad 16), .ref (ad 17), .ref (ad 18), .ref (ad 19), .ref (ad 20), .ref (ad 21), .ref (ad 22), .int (I 23), .int (I 24), .int (I 25), .int (I 26), .int (I 27), .int (I 28), .int (I 29), .ref rw, .int (I 31), .int (I 32), .int (I 33), .int (I 34), .int (I 35), .long gd, .long gl, .ref (ad 38), .ref (ad 39), .ref (ad 40), .ref (ad 41), .ref (ad 42), .ref (ad 43), .int (I 44), .int (I 45), .int (I 46), .int (I 47), .int (I 48), .int (I 49)])), ((ad 1), .inl (G.2.2 0, 120, .inl (F 1))), ((ad 2), .inl (G.2.2 0, 2400, .inl (F 2))), ((ad 3), .inl (G.2.2 1, 20, .inl (F 3))), ((ad 4), .inl (G.2.2 1, 20, .inl (F 4))), ((ad 5), .inl (G.2.2 1, 20, .inl (F 5))), ((ad 6), .inl (G.2.2 1, 60, .inl (F 6))), ((ad 7), .inl (G.2.2 1, 60, .inl (F 7))), ((ad 8), .inl (G.2.2 1, 60, .inl (F 8))), ((ad 9), .inl (G.2.2 1, 60, .inl (F 9))), ((ad 10), .inl (G.2.2 1, 100, .inl (F 10))), ((ad 11), .inl (G.2.2 1, 100, .inl (F 11))), ((ad 12), .inl (G.2.2 1, 100, .inl (F 12))), ((ad 13), .inl (G.2.2 1, 100, .inl (F 13))), ((ad 14), .inl (G.2.2 1, 100, .inl (F 14))), ((ad 15), .inl (G.2.2 1, 100, .inl (F 15))), ((ad 16), .inl (G.2.2 1, 100, .inl (F 16))), ((ad 17), .inl (G.2.2 1, 100, .inl (F 17))), ((ad 18), .inl (G.2.2 1, 100, .inl (F 18))), ((ad 19), .inl (G.2.2 1, 6, .inl (F 19))), ((ad 20), .inl (G.2.2 1, 20000, .inl (F 20))), ((ad 21), .inl (G.2.2 1, 20000, .inl (F 21))), ((ad 22), .inl (G.2.2 1, 20000, .inl (F 22))), ((ad 38), .inl (G.2.2 1, 40, .inl (F 38))), ((ad 39), .inl (G.2.2 1, 40, .inl (F 39))), ((ad 40), .inl (G.2.2 1, 2, .inl (F 40))), ((ad 41), .inl (G.2.2 1, 20, .inl (F 41))), ((ad 42), .inl (G.2.2 3, 20, .inl (F 42))), ((ad 43), .inl (G.2.2 3, 20, .inl (F 43)))])) := List.Perm.refl _
    refine k_i C h hp (r_runS C h hp (As := [.int y, .int 0, .int 20]) (rest := []) (m_isIn l G y 0 20) (va_cwS 3 C.1.1.2.2.2.2 gX10_price_X10_isIn rfl rfl rfl (by decide +kernel) ⟨Nat.le_of_ble_eq_true rfl, Nat.le_of_ble_eq_true rfl⟩) rfl hl.1 (Nat.le_of_ble_eq_true rfl) dX10_price_18 ⟨Nat.le_of_ble_eq_true rfl, Nat.le_of_ble_eq_true rfl⟩) (fun r_4 u_5 H locs hw_6 h => ?_)
    have h : gS G A s (mW G ad (upd I 0 0) F rw gd gl) H locs := h
    refine W.widen (k := 0) (n := 0) (Nat.le_of_ble_eq_true rfl) (Nat.le_of_ble_eq_true rfl) ?_
    subst hw_6
    refine lv_if_ne (tgt := 26) hx hb dX10_price_21 (by decide) (fun c_21 => ?_) (fun c_21 => ?_)
    · refine lv_aload_n hx hb dX10_price_26 rfl (lv_at hl 0 rfl) ?_
      refine r_get C h 0 rfl (Cn := RX10) (T := TX10) (N := 50) rfl hinX10 19 (by decide) (index := 65) (ref := "ScaleHouseModel") wd1 rfl (v := .ref (ad 19)) rfl dX10_price_27 ?_
      refine lv_iload_n hx hb dX10_price_30 rfl (lv_at hl 1 rfl) ?_
      refine lv_iload_n hx hb dX10_price_31 rfl (lv_at hl 2 rfl) ?_
      refine r_iast C h 19 rfl (i := x) (mIn_in (by assumption) (by decide)) dX10_price_32 (fun H locs h => ?_)
      have h : gS G A s (mW G ad (upd I 0 0) (va_up F 19 (upd (F 19) x.toNatClampNeg y)) rw gd gl) H locs := h
      refine lv_iconst (v := 1) hx hb dX10_price_33 (by decide) ?_
      exact r_zret C h hr hlk (Nat.zero_le _) (Nat.zero_le _) (Or.inr rfl) () (by simp only [mPrice, if_neg c_11, if_neg c_21]) (by simp only [mPrice, if_neg c_11, if_neg c_21]) dX10_price_34
    · refine lv_iconst (v := 0) hx hb dX10_price_24 (by decide) ?_
      exact r_zret C h hr hlk (Nat.zero_le _) (Nat.zero_le _) (Or.inl rfl) () (by simp only [mPrice, if_neg c_11, if_pos c_21]) (by simp only [mPrice, if_neg c_11, if_pos c_21]) dX10_price_25

def mDefects (I : Nat → Int32) (F : Nat → Nat → Int32) (x y z : Int32) : Int32 × (Nat → Int32) × (Nat → Nat → Int32) :=
  if (mIsLog (upd I 0 0) x) = 0 then (0, (upd I 0 0), F)
  else if (mIn y 0 99) = 0 then (0, (upd I 0 0), F)
    else if (mIn z 0 90) = 0 then (0, (upd I 0 0), F)
      else (1, (upd I 0 0), (va_up (va_up F 15 (upd (F 15) x.toNatClampNeg y)) 16 (upd (F 16) x.toNatClampNeg z)))
set_option maxHeartbeats 4000000 in
set_option maxRecDepth 100000 in
theorem m_defects (l : Launch) (G : gG) (ad : Nat → Nat) (I : Nat → Int32) (F : Nat → Nat → Int32) (rw : Nat) (gd gl : Int64) (x y z : Int32) (hlg : lim (I 27) 100) : cM l yX10_defects wsX10_defects 1 25 (0) (0) G [.ref (ad 0), .int x, .int y, .int z] (mW G ad I F rw gd gl) (qI G (S := Unit) (fun r _ => r = (mDefects I F x y z).1) (fun _ => mW G ad ((mDefects I F x y z).2.1) ((mDefects I F x y z).2.2) rw gd gl)) := by
  refine o_M (cc := cX10_defects) (maxL := 4) (ret := (some .boolean)) (own := RX10) (by decide +kernel) rfl rfl (Nat.le_of_ble_eq_true rfl) ?_
  intro p e s m below meth c A ls H locs hA C h hr hlk hnm hl
  have hx := C.1.1.1
  have hb := C.1.1.2.1
  have hl : lv_has ls 4 [(0, .ref (ad 0)), (1, .int x), (2, .int y), (3, .int z)] := hl
  have wd0 : Cond.fieldLink RX10 106 "ScaleHouseModel" "thrown" "I" ∈ wsX10_defects := by decide +kernel
  have hinX10 : ∀ w ∈ wsX100, w ∈ wsX10_defects := fun _ h => List.mem_cons_of_mem _ (List.mem_append_right _ h)
  have wd1 : Cond.fieldLink RX10 53 "ScaleHouseModel" "rot" "[I" ∈ wsX10_defects := by decide +kernel
  have wd2 : Cond.fieldLink RX10 56 "ScaleHouseModel" "bend" "[I" ∈ wsX10_defects := by decide +kernel
  refine lv_aload_n hx hb dX10_defects_0 rfl (lv_at hl 0 rfl) ?_
  refine lv_iconst (v := 0) hx hb dX10_defects_1 (by decide) ?_
  refine r_put C h 0 rfl (Cn := RX10) (T := TX10) (N := 50) rfl hinX10 tyX10 tyX10_ok nmX10 0 (by decide) (index := 106) (ref := "ScaleHouseModel") wd0 rfl rfl (v := .int 0) rfl rfl (show 0 < 50 by decide) dX10_defects_2 (fun H locs h => ?_)
  have h : gS G A s (mW G ad (upd I 0 0) F rw gd gl) H locs := h
  refine lv_aload_n hx hb dX10_defects_5 rfl (lv_at hl 0 rfl) ?_
  refine lv_iload_n hx hb dX10_defects_6 rfl (lv_at hl 1 rfl) ?_
  have hp : List.Perm (mW G ad (upd I 0 0) F rw gd gl : va_W) ([((ad 0), .inr (10, [.int 0, .ref (ad 1), .ref (ad 2), .ref (ad 3), .ref (ad 4), .ref (ad 5), .ref (ad 6), .ref (ad 7), .ref (ad 8), .ref (ad 9), .ref (ad 10), .ref (ad 11), .ref (ad 12), .ref (ad 13), .ref (ad 14), .ref (ad 15), .ref (ad 16), .ref (ad 17), .ref (ad 18), .ref (ad 19), .ref (ad 20), .ref (ad 21), .ref (ad 22), .int (I 23), .int (I 24), .int (I 25), .int (I 26), .int (I 27), .int (I 28), .int (I 29), .ref rw, .int (I 31), .int (I 32), .int (I 33), .int (I 34), .int (I 35), .long gd, .long gl, .ref (ad 38), .ref (ad 39), .ref (ad 40), .ref (ad 41), .ref (ad 42), .ref (ad 43), .int (I 44), .int (I 45), .int (I 46), .int (I 47), .int (I 48), .int (I 49)])), ((ad 1), .inl (G.2.2 0, 120, .inl (F 1))), ((ad 2), .inl (G.2.2 0, 2400, .inl (F 2))), ((ad 3), .inl (G.2.2 1, 20, .inl (F 3))), ((ad 4), .inl (G.2.2 1, 20, .inl (F 4))), ((ad 5), .inl (G.2.2 1, 20, .inl (F 5))), ((ad 6), .inl (G.2.2 1, 60, .inl (F 6))), ((ad 7), .inl (G.2.2 1, 60, .inl (F 7))), ((ad 8), .inl (G.2.2 1, 60, .inl (F 8))), ((ad 9), .inl (G.2.2 1, 60, .inl (F 9))), ((ad 10), .inl (G.2.2 1, 100, .inl (F 10))), ((ad 11), .inl (G.2.2 1, 100, .inl (F 11))), ((ad 12), .inl (G.2.2 1, 100, .inl (F 12))), ((ad 13), .inl (G.2.2 1, 100, .inl (F 13))), ((ad 14), .inl (G.2.2 1, 100, .inl (F 14))), ((ad 15), .inl (G.2.2 1, 100, .inl (F 15))), ((ad 16), .inl (G.2.2 1, 100, .inl (F 16))), ((ad 17), .inl (G.2.2 1, 100, .inl (F 17))), ((ad 18), .inl (G.2.2 1, 100, .inl (F 18))), ((ad 19), .inl (G.2.2 1, 6, .inl (F 19))), ((ad 20), .inl (G.2.2 1, 20000, .inl (F 20))), ((ad 21), .inl (G.2.2 1, 20000, .inl (F 21))), ((ad 22), .inl (G.2.2 1, 20000, .inl (F 22))), ((ad 38), .inl (G.2.2 1, 40, .inl (F 38))), ((ad 39), .inl (G.2.2 1, 40, .inl (F 39))), ((ad 40), .inl (G.2.2 1, 2, .inl (F 40))), ((ad 41), .inl (G.2.2 1, 20, .inl (F 41))), ((ad 42), .inl (G.2.2 3, 20, .inl (F 42))), ((ad 43), .inl (G.2.2 3, 20, .inl (F 43)))] ++ []) := pm 29 rfl [0, 1, 2, 3, 4, 5, 6, 7, 8, 9, 10, 11, 12, 13, 14, 15, 16, 17, 18, 19, 20, 21, 22, 23, 24, 25, 26, 27, 28] (by decide +kernel) rfl
  refine k_i C h hp (r_runV C h hp 0 rfl rfl (As := [.int x]) (rest := []) (m_isLog l G ad (upd I 0 0) F rw gd gl x) (cwV 1 C.1.1.2.2.2.2 gX10_defects_X10_isLog rfl rfl rfl (by decide +kernel) ⟨Nat.le_of_ble_eq_true rfl, Nat.le_of_ble_eq_true rfl⟩) rfl hl.1 (Nat.le_of_ble_eq_true rfl) dX10_defects_7 ⟨Nat.le_of_ble_eq_true rfl, Nat.le_of_ble_eq_true rfl⟩) (fun r_1 u_2 H locs hw_3 h => ?_)
  have h : gS G A s (mW G ad (upd I 0 0) F rw gd gl) H locs := h
  refine W.widen (k := 0) (n := 0) (Nat.le_of_ble_eq_true rfl) (Nat.le_of_ble_eq_true rfl) ?_
  subst hw_3
  refine lv_if_eq (tgt := 33) hx hb dX10_defects_10 (by decide) (fun c_10 => ?_) (fun c_10 => ?_)
  · refine lv_iconst (v := 0) hx hb dX10_defects_33 (by decide) ?_
    exact r_zret C h hr hlk (Nat.zero_le _) (Nat.zero_le _) (Or.inl rfl) () (by simp only [mDefects, if_pos c_10]) (by simp only [mDefects, if_pos c_10]) dX10_defects_34
  · refine lv_iload_n hx hb dX10_defects_13 rfl (lv_at hl 2 rfl) ?_
    refine lv_iconst (v := 0) hx hb dX10_defects_14 (by decide) ?_
    refine lv_bipush (v := 99) hx hb dX10_defects_15 (by decide) ?_
    have hp : List.Perm (mW G ad (upd I 0 0) F rw gd gl : va_W) ([] ++ ([((ad 0), .inr (10, [.int 0, .ref (ad 1), .ref (ad 2), .ref (ad 3), .ref (ad 4), .ref (ad 5), .ref (ad 6), .ref (ad 7), .ref (ad 8), .ref (ad 9), .ref (ad 10), .ref (ad 11), .ref (ad 12), .ref (ad 13), .ref (ad 14), .ref (ad 15), .ref (ad 16), .ref (ad 17), .ref (ad 18), .ref (ad 19), .ref (ad 20), .ref (ad 21), .ref (ad 22), .int (I 23), .int (I 24), .int (I 25), .int (I 26), .int (I 27), .int (I 28), .int (I 29), .ref rw, .int (I 31), .int (I 32), .int (I 33), .int (I 34), .int (I 35), .long gd, .long gl, .ref (ad 38), .ref (ad 39), .ref (ad 40), .ref (ad 41), .ref (ad 42), .ref (ad 43), .int (I 44), .int (I 45), .int (I 46), .int (I 47), .int (I 48), .int (I 49)])), ((ad 1), .inl (G.2.2 0, 120, .inl (F 1))), ((ad 2), .inl (G.2.2 0, 2400, .inl (F 2))), ((ad 3), .inl (G.2.2 1, 20, .inl (F 3))), ((ad 4), .inl (G.2.2 1, 20, .inl (F 4))), ((ad 5), .inl (G.2.2 1, 20, .inl (F 5))), ((ad 6), .inl (G.2.2 1, 60, .inl (F 6))), ((ad 7), .inl (G.2.2 1, 60, .inl (F 7))), ((ad 8), .inl (G.2.2 1, 60, .inl (F 8))), ((ad 9), .inl (G.2.2 1, 60, .inl (F 9))), ((ad 10), .inl (G.2.2 1, 100, .inl (F 10))), ((ad 11), .inl (G.2.2 1, 100, .inl (F 11))), ((ad 12), .inl (G.2.2 1, 100, .inl (F 12))), ((ad 13), .inl (G.2.2 1, 100, .inl (F 13))), ((ad 14), .inl (G.2.2 1, 100, .inl (F 14))), ((ad 15), .inl (G.2.2 1, 100, .inl (F 15))), ((ad 16), .inl (G.2.2 1, 100, .inl (F 16))), ((ad 17), .inl (G.2.2 1, 100, .inl (F 17))), ((ad 18), .inl (G.2.2 1, 100, .inl (F 18))), ((ad 19), .inl (G.2.2 1, 6, .inl (F 19))), ((ad 20), .inl (G.2.2 1, 20000, .inl (F 20))), ((ad 21), .inl (G.2.2 1, 20000, .inl (F 21))), ((ad 22), .inl (G.2.2 1, 20000, .inl (F 22))), ((ad 38), .inl (G.2.2 1, 40, .inl (F 38))), ((ad 39), .inl (G.2.2 1, 40, .inl (F 39))), ((ad 40), .inl (G.2.2 1, 2, .inl (F 40))), ((ad 41), .inl (G.2.2 1, 20, .inl (F 41))), ((ad 42), .inl (G.2.2 3, 20, .inl (F 42))), ((ad 43), .inl (G.2.2 3, 20, .inl (F 43)))])) := List.Perm.refl _
    refine k_i C h hp (r_runS C h hp (As := [.int y, .int 0, .int 99]) (rest := []) (m_isIn l G y 0 99) (va_cwS 3 C.1.1.2.2.2.2 gX10_defects_X10_isIn rfl rfl rfl (by decide +kernel) ⟨Nat.le_of_ble_eq_true rfl, Nat.le_of_ble_eq_true rfl⟩) rfl hl.1 (Nat.le_of_ble_eq_true rfl) dX10_defects_17 ⟨Nat.le_of_ble_eq_true rfl, Nat.le_of_ble_eq_true rfl⟩) (fun r_4 u_5 H locs hw_6 h => ?_)
    have h : gS G A s (mW G ad (upd I 0 0) F rw gd gl) H locs := h
    refine W.widen (k := 0) (n := 0) (Nat.le_of_ble_eq_true rfl) (Nat.le_of_ble_eq_true rfl) ?_
    subst hw_6
    refine lv_if_eq (tgt := 33) hx hb dX10_defects_20 (by decide) (fun c_20 => ?_) (fun c_20 => ?_)
    · refine lv_iconst (v := 0) hx hb dX10_defects_33 (by decide) ?_
      exact r_zret C h hr hlk (Nat.zero_le _) (Nat.zero_le _) (Or.inl rfl) () (by simp only [mDefects, if_neg c_10, if_pos c_20]) (by simp only [mDefects, if_neg c_10, if_pos c_20]) dX10_defects_34
    · refine lv_iload_n hx hb dX10_defects_23 rfl (lv_at hl 3 rfl) ?_
      refine lv_iconst (v := 0) hx hb dX10_defects_24 (by decide) ?_
      refine lv_bipush (v := 90) hx hb dX10_defects_25 (by decide) ?_
      have hp : List.Perm (mW G ad (upd I 0 0) F rw gd gl : va_W) ([] ++ ([((ad 0), .inr (10, [.int 0, .ref (ad 1), .ref (ad 2), .ref (ad 3), .ref (ad 4), .ref (ad 5), .ref (ad 6), .ref (ad 7), .ref (ad 8), .ref (ad 9), .ref (ad 10), .ref (ad 11), .ref (ad 12), .ref (ad 13), .ref (ad 14), .ref (ad 15), .ref (ad 16), .ref (ad 17), .ref (ad 18), .ref (ad 19), .ref (ad 20), .ref (ad 21), .ref (ad 22), .int (I 23), .int (I 24), .int (I 25), .int (I 26), .int (I 27), .int (I 28), .int (I 29), .ref rw, .int (I 31), .int (I 32), .int (I 33), .int (I 34), .int (I 35), .long gd, .long gl, .ref (ad 38), .ref (ad 39), .ref (ad 40), .ref (ad 41), .ref (ad 42), .ref (ad 43), .int (I 44), .int (I 45), .int (I 46), .int (I 47), .int (I 48), .int (I 49)])), ((ad 1), .inl (G.2.2 0, 120, .inl (F 1))), ((ad 2), .inl (G.2.2 0, 2400, .inl (F 2))), ((ad 3), .inl (G.2.2 1, 20, .inl (F 3))), ((ad 4), .inl (G.2.2 1, 20, .inl (F 4))), ((ad 5), .inl (G.2.2 1, 20, .inl (F 5))), ((ad 6), .inl (G.2.2 1, 60, .inl (F 6))), ((ad 7), .inl (G.2.2 1, 60, .inl (F 7))), ((ad 8), .inl (G.2.2 1, 60, .inl (F 8))), ((ad 9), .inl (G.2.2 1, 60, .inl (F 9))), ((ad 10), .inl (G.2.2 1, 100, .inl (F 10))), ((ad 11), .inl (G.2.2 1, 100, .inl (F 11))), ((ad 12), .inl (G.2.2 1, 100, .inl (F 12))), ((ad 13), .inl (G.2.2 1, 100, .inl (F 13))), ((ad 14), .inl (G.2.2 1, 100, .inl (F 14))), ((ad 15), .inl (G.2.2 1, 100, .inl (F 15))), ((ad 16), .inl (G.2.2 1, 100, .inl (F 16))), ((ad 17), .inl (G.2.2 1, 100, .inl (F 17))), ((ad 18), .inl (G.2.2 1, 100, .inl (F 18))), ((ad 19), .inl (G.2.2 1, 6, .inl (F 19))), ((ad 20), .inl (G.2.2 1, 20000, .inl (F 20))), ((ad 21), .inl (G.2.2 1, 20000, .inl (F 21))), ((ad 22), .inl (G.2.2 1, 20000, .inl (F 22))), ((ad 38), .inl (G.2.2 1, 40, .inl (F 38))), ((ad 39), .inl (G.2.2 1, 40, .inl (F 39))), ((ad 40), .inl (G.2.2 1, 2, .inl (F 40))), ((ad 41), .inl (G.2.2 1, 20, .inl (F 41))), ((ad 42), .inl (G.2.2 3, 20, .inl (F 42))), ((ad 43), .inl (G.2.2 3, 20, .inl (F 43)))])) := List.Perm.refl _
      refine k_i C h hp (r_runS C h hp (As := [.int z, .int 0, .int 90]) (rest := []) (m_isIn l G z 0 90) (va_cwS 3 C.1.1.2.2.2.2 gX10_defects_X10_isIn rfl rfl rfl (by decide +kernel) ⟨Nat.le_of_ble_eq_true rfl, Nat.le_of_ble_eq_true rfl⟩) rfl hl.1 (Nat.le_of_ble_eq_true rfl) dX10_defects_27 ⟨Nat.le_of_ble_eq_true rfl, Nat.le_of_ble_eq_true rfl⟩) (fun r_7 u_8 H locs hw_9 h => ?_)
      have h : gS G A s (mW G ad (upd I 0 0) F rw gd gl) H locs := h
      refine W.widen (k := 0) (n := 0) (Nat.le_of_ble_eq_true rfl) (Nat.le_of_ble_eq_true rfl) ?_
      subst hw_9
      refine lv_if_ne (tgt := 35) hx hb dX10_defects_30 (by decide) (fun c_30 => ?_) (fun c_30 => ?_)
      · refine lv_aload_n hx hb dX10_defects_35 rfl (lv_at hl 0 rfl) ?_
        refine r_get C h 0 rfl (Cn := RX10) (T := TX10) (N := 50) rfl hinX10 15 (by decide) (index := 53) (ref := "ScaleHouseModel") wd1 rfl (v := .ref (ad 15)) rfl dX10_defects_36 ?_
        refine lv_iload_n hx hb dX10_defects_39 rfl (lv_at hl 1 rfl) ?_
        refine lv_iload_n hx hb dX10_defects_40 rfl (lv_at hl 2 rfl) ?_
        refine r_iast C h 15 rfl (i := x) (mIsLog_in (I := upd I 0 0) (by assumption) hlg (by decide)) dX10_defects_41 (fun H locs h => ?_)
        have h : gS G A s (mW G ad (upd I 0 0) (va_up F 15 (upd (F 15) x.toNatClampNeg y)) rw gd gl) H locs := h
        refine lv_aload_n hx hb dX10_defects_42 rfl (lv_at hl 0 rfl) ?_
        refine r_get C h 0 rfl (Cn := RX10) (T := TX10) (N := 50) rfl hinX10 16 (by decide) (index := 56) (ref := "ScaleHouseModel") wd2 rfl (v := .ref (ad 16)) rfl dX10_defects_43 ?_
        refine lv_iload_n hx hb dX10_defects_46 rfl (lv_at hl 1 rfl) ?_
        refine lv_iload_n hx hb dX10_defects_47 rfl (lv_at hl 3 rfl) ?_
        refine r_iast C h 16 rfl (i := x) (mIsLog_in (I := upd I 0 0) (by assumption) hlg (by decide)) dX10_defects_48 (fun H locs h => ?_)
        have h : gS G A s (mW G ad (upd I 0 0) (va_up (va_up F 15 (upd (F 15) x.toNatClampNeg y)) 16 (upd (F 16) x.toNatClampNeg z)) rw gd gl) H locs := h
        refine lv_iconst (v := 1) hx hb dX10_defects_49 (by decide) ?_
        exact r_zret C h hr hlk (Nat.zero_le _) (Nat.zero_le _) (Or.inr rfl) () (by simp only [mDefects, if_neg c_10, if_neg c_20, if_neg c_30]) (by simp only [mDefects, if_neg c_10, if_neg c_20, if_neg c_30]) dX10_defects_50
      · refine lv_iconst (v := 0) hx hb dX10_defects_33 (by decide) ?_
        exact r_zret C h hr hlk (Nat.zero_le _) (Nat.zero_le _) (Or.inl rfl) () (by simp only [mDefects, if_neg c_10, if_neg c_20, if_pos c_30]) (by simp only [mDefects, if_neg c_10, if_neg c_20, if_pos c_30]) dX10_defects_34

def mCheck (I : Nat → Int32) (F : Nat → Nat → Int32) (x y : Int32) : Int32 × (Nat → Int32) × (Nat → Nat → Int32) :=
  if (mIsLog (upd I 0 0) x) = 0 then (0, (upd I 0 0), F)
  else if (mIn y 1 99) = 0 then (0, (upd I 0 0), F)
    else (1, (upd I 0 0), (va_up F 18 (upd (F 18) x.toNatClampNeg y)))
set_option maxHeartbeats 4000000 in
set_option maxRecDepth 100000 in
theorem m_check (l : Launch) (G : gG) (ad : Nat → Nat) (I : Nat → Int32) (F : Nat → Nat → Int32) (rw : Nat) (gd gl : Int64) (x y : Int32) (hlg : lim (I 27) 100) : cM l yX10_check wsX10_check 1 25 (0) (0) G [.ref (ad 0), .int x, .int y] (mW G ad I F rw gd gl) (qI G (S := Unit) (fun r _ => r = (mCheck I F x y).1) (fun _ => mW G ad ((mCheck I F x y).2.1) ((mCheck I F x y).2.2) rw gd gl)) := by
  refine o_M (cc := cX10_check) (maxL := 3) (ret := (some .boolean)) (own := RX10) (by decide +kernel) rfl rfl (Nat.le_of_ble_eq_true rfl) ?_
  intro p e s m below meth c A ls H locs hA C h hr hlk hnm hl
  have hx := C.1.1.1
  have hb := C.1.1.2.1
  have hl : lv_has ls 3 [(0, .ref (ad 0)), (1, .int x), (2, .int y)] := hl
  have wd0 : Cond.fieldLink RX10 106 "ScaleHouseModel" "thrown" "I" ∈ wsX10_check := by decide +kernel
  have hinX10 : ∀ w ∈ wsX100, w ∈ wsX10_check := fun _ h => List.mem_cons_of_mem _ (List.mem_append_right _ h)
  have wd1 : Cond.fieldLink RX10 62 "ScaleHouseModel" "check" "[I" ∈ wsX10_check := by decide +kernel
  refine lv_aload_n hx hb dX10_check_0 rfl (lv_at hl 0 rfl) ?_
  refine lv_iconst (v := 0) hx hb dX10_check_1 (by decide) ?_
  refine r_put C h 0 rfl (Cn := RX10) (T := TX10) (N := 50) rfl hinX10 tyX10 tyX10_ok nmX10 0 (by decide) (index := 106) (ref := "ScaleHouseModel") wd0 rfl rfl (v := .int 0) rfl rfl (show 0 < 50 by decide) dX10_check_2 (fun H locs h => ?_)
  have h : gS G A s (mW G ad (upd I 0 0) F rw gd gl) H locs := h
  refine lv_aload_n hx hb dX10_check_5 rfl (lv_at hl 0 rfl) ?_
  refine lv_iload_n hx hb dX10_check_6 rfl (lv_at hl 1 rfl) ?_
  have hp : List.Perm (mW G ad (upd I 0 0) F rw gd gl : va_W) ([((ad 0), .inr (10, [.int 0, .ref (ad 1), .ref (ad 2), .ref (ad 3), .ref (ad 4), .ref (ad 5), .ref (ad 6), .ref (ad 7), .ref (ad 8), .ref (ad 9), .ref (ad 10), .ref (ad 11), .ref (ad 12), .ref (ad 13), .ref (ad 14), .ref (ad 15), .ref (ad 16), .ref (ad 17), .ref (ad 18), .ref (ad 19), .ref (ad 20), .ref (ad 21), .ref (ad 22), .int (I 23), .int (I 24), .int (I 25), .int (I 26), .int (I 27), .int (I 28), .int (I 29), .ref rw, .int (I 31), .int (I 32), .int (I 33), .int (I 34), .int (I 35), .long gd, .long gl, .ref (ad 38), .ref (ad 39), .ref (ad 40), .ref (ad 41), .ref (ad 42), .ref (ad 43), .int (I 44), .int (I 45), .int (I 46), .int (I 47), .int (I 48), .int (I 49)])), ((ad 1), .inl (G.2.2 0, 120, .inl (F 1))), ((ad 2), .inl (G.2.2 0, 2400, .inl (F 2))), ((ad 3), .inl (G.2.2 1, 20, .inl (F 3))), ((ad 4), .inl (G.2.2 1, 20, .inl (F 4))), ((ad 5), .inl (G.2.2 1, 20, .inl (F 5))), ((ad 6), .inl (G.2.2 1, 60, .inl (F 6))), ((ad 7), .inl (G.2.2 1, 60, .inl (F 7))), ((ad 8), .inl (G.2.2 1, 60, .inl (F 8))), ((ad 9), .inl (G.2.2 1, 60, .inl (F 9))), ((ad 10), .inl (G.2.2 1, 100, .inl (F 10))), ((ad 11), .inl (G.2.2 1, 100, .inl (F 11))), ((ad 12), .inl (G.2.2 1, 100, .inl (F 12))), ((ad 13), .inl (G.2.2 1, 100, .inl (F 13))), ((ad 14), .inl (G.2.2 1, 100, .inl (F 14))), ((ad 15), .inl (G.2.2 1, 100, .inl (F 15))), ((ad 16), .inl (G.2.2 1, 100, .inl (F 16))), ((ad 17), .inl (G.2.2 1, 100, .inl (F 17))), ((ad 18), .inl (G.2.2 1, 100, .inl (F 18))), ((ad 19), .inl (G.2.2 1, 6, .inl (F 19))), ((ad 20), .inl (G.2.2 1, 20000, .inl (F 20))), ((ad 21), .inl (G.2.2 1, 20000, .inl (F 21))), ((ad 22), .inl (G.2.2 1, 20000, .inl (F 22))), ((ad 38), .inl (G.2.2 1, 40, .inl (F 38))), ((ad 39), .inl (G.2.2 1, 40, .inl (F 39))), ((ad 40), .inl (G.2.2 1, 2, .inl (F 40))), ((ad 41), .inl (G.2.2 1, 20, .inl (F 41))), ((ad 42), .inl (G.2.2 3, 20, .inl (F 42))), ((ad 43), .inl (G.2.2 3, 20, .inl (F 43)))] ++ []) := pm 29 rfl [0, 1, 2, 3, 4, 5, 6, 7, 8, 9, 10, 11, 12, 13, 14, 15, 16, 17, 18, 19, 20, 21, 22, 23, 24, 25, 26, 27, 28] (by decide +kernel) rfl
  refine k_i C h hp (r_runV C h hp 0 rfl rfl (As := [.int x]) (rest := []) (m_isLog l G ad (upd I 0 0) F rw gd gl x) (cwV 1 C.1.1.2.2.2.2 gX10_check_X10_isLog rfl rfl rfl (by decide +kernel) ⟨Nat.le_of_ble_eq_true rfl, Nat.le_of_ble_eq_true rfl⟩) rfl hl.1 (Nat.le_of_ble_eq_true rfl) dX10_check_7 ⟨Nat.le_of_ble_eq_true rfl, Nat.le_of_ble_eq_true rfl⟩) (fun r_1 u_2 H locs hw_3 h => ?_)
  have h : gS G A s (mW G ad (upd I 0 0) F rw gd gl) H locs := h
  refine W.widen (k := 0) (n := 0) (Nat.le_of_ble_eq_true rfl) (Nat.le_of_ble_eq_true rfl) ?_
  subst hw_3
  refine lv_if_eq (tgt := 23) hx hb dX10_check_10 (by decide) (fun c_10 => ?_) (fun c_10 => ?_)
  · refine lv_iconst (v := 0) hx hb dX10_check_23 (by decide) ?_
    exact r_zret C h hr hlk (Nat.zero_le _) (Nat.zero_le _) (Or.inl rfl) () (by simp only [mCheck, if_pos c_10]) (by simp only [mCheck, if_pos c_10]) dX10_check_24
  · refine lv_iload_n hx hb dX10_check_13 rfl (lv_at hl 2 rfl) ?_
    refine lv_iconst (v := 1) hx hb dX10_check_14 (by decide) ?_
    refine lv_bipush (v := 99) hx hb dX10_check_15 (by decide) ?_
    have hp : List.Perm (mW G ad (upd I 0 0) F rw gd gl : va_W) ([] ++ ([((ad 0), .inr (10, [.int 0, .ref (ad 1), .ref (ad 2), .ref (ad 3), .ref (ad 4), .ref (ad 5), .ref (ad 6), .ref (ad 7), .ref (ad 8), .ref (ad 9), .ref (ad 10), .ref (ad 11), .ref (ad 12), .ref (ad 13), .ref (ad 14), .ref (ad 15), .ref (ad 16), .ref (ad 17), .ref (ad 18), .ref (ad 19), .ref (ad 20), .ref (ad 21), .ref (ad 22), .int (I 23), .int (I 24), .int (I 25), .int (I 26), .int (I 27), .int (I 28), .int (I 29), .ref rw, .int (I 31), .int (I 32), .int (I 33), .int (I 34), .int (I 35), .long gd, .long gl, .ref (ad 38), .ref (ad 39), .ref (ad 40), .ref (ad 41), .ref (ad 42), .ref (ad 43), .int (I 44), .int (I 45), .int (I 46), .int (I 47), .int (I 48), .int (I 49)])), ((ad 1), .inl (G.2.2 0, 120, .inl (F 1))), ((ad 2), .inl (G.2.2 0, 2400, .inl (F 2))), ((ad 3), .inl (G.2.2 1, 20, .inl (F 3))), ((ad 4), .inl (G.2.2 1, 20, .inl (F 4))), ((ad 5), .inl (G.2.2 1, 20, .inl (F 5))), ((ad 6), .inl (G.2.2 1, 60, .inl (F 6))), ((ad 7), .inl (G.2.2 1, 60, .inl (F 7))), ((ad 8), .inl (G.2.2 1, 60, .inl (F 8))), ((ad 9), .inl (G.2.2 1, 60, .inl (F 9))), ((ad 10), .inl (G.2.2 1, 100, .inl (F 10))), ((ad 11), .inl (G.2.2 1, 100, .inl (F 11))), ((ad 12), .inl (G.2.2 1, 100, .inl (F 12))), ((ad 13), .inl (G.2.2 1, 100, .inl (F 13))), ((ad 14), .inl (G.2.2 1, 100, .inl (F 14))), ((ad 15), .inl (G.2.2 1, 100, .inl (F 15))), ((ad 16), .inl (G.2.2 1, 100, .inl (F 16))), ((ad 17), .inl (G.2.2 1, 100, .inl (F 17))), ((ad 18), .inl (G.2.2 1, 100, .inl (F 18))), ((ad 19), .inl (G.2.2 1, 6, .inl (F 19))), ((ad 20), .inl (G.2.2 1, 20000, .inl (F 20))), ((ad 21), .inl (G.2.2 1, 20000, .inl (F 21))), ((ad 22), .inl (G.2.2 1, 20000, .inl (F 22))), ((ad 38), .inl (G.2.2 1, 40, .inl (F 38))), ((ad 39), .inl (G.2.2 1, 40, .inl (F 39))), ((ad 40), .inl (G.2.2 1, 2, .inl (F 40))), ((ad 41), .inl (G.2.2 1, 20, .inl (F 41))), ((ad 42), .inl (G.2.2 3, 20, .inl (F 42))), ((ad 43), .inl (G.2.2 3, 20, .inl (F 43)))])) := List.Perm.refl _
    refine k_i C h hp (r_runS C h hp (As := [.int y, .int 1, .int 99]) (rest := []) (m_isIn l G y 1 99) (va_cwS 3 C.1.1.2.2.2.2 gX10_check_X10_isIn rfl rfl rfl (by decide +kernel) ⟨Nat.le_of_ble_eq_true rfl, Nat.le_of_ble_eq_true rfl⟩) rfl hl.1 (Nat.le_of_ble_eq_true rfl) dX10_check_17 ⟨Nat.le_of_ble_eq_true rfl, Nat.le_of_ble_eq_true rfl⟩) (fun r_4 u_5 H locs hw_6 h => ?_)
    have h : gS G A s (mW G ad (upd I 0 0) F rw gd gl) H locs := h
    refine W.widen (k := 0) (n := 0) (Nat.le_of_ble_eq_true rfl) (Nat.le_of_ble_eq_true rfl) ?_
    subst hw_6
    refine lv_if_ne (tgt := 25) hx hb dX10_check_20 (by decide) (fun c_20 => ?_) (fun c_20 => ?_)
    · refine lv_aload_n hx hb dX10_check_25 rfl (lv_at hl 0 rfl) ?_
      refine r_get C h 0 rfl (Cn := RX10) (T := TX10) (N := 50) rfl hinX10 18 (by decide) (index := 62) (ref := "ScaleHouseModel") wd1 rfl (v := .ref (ad 18)) rfl dX10_check_26 ?_
      refine lv_iload_n hx hb dX10_check_29 rfl (lv_at hl 1 rfl) ?_
      refine lv_iload_n hx hb dX10_check_30 rfl (lv_at hl 2 rfl) ?_
      refine r_iast C h 18 rfl (i := x) (mIsLog_in (I := upd I 0 0) (by assumption) hlg (by decide)) dX10_check_31 (fun H locs h => ?_)
      have h : gS G A s (mW G ad (upd I 0 0) (va_up F 18 (upd (F 18) x.toNatClampNeg y)) rw gd gl) H locs := h
      refine lv_iconst (v := 1) hx hb dX10_check_32 (by decide) ?_
      exact r_zret C h hr hlk (Nat.zero_le _) (Nat.zero_le _) (Or.inr rfl) () (by simp only [mCheck, if_neg c_10, if_neg c_20]) (by simp only [mCheck, if_neg c_10, if_neg c_20]) dX10_check_33
    · refine lv_iconst (v := 0) hx hb dX10_check_23 (by decide) ?_
      exact r_zret C h hr hlk (Nat.zero_le _) (Nat.zero_le _) (Or.inl rfl) () (by simp only [mCheck, if_neg c_10, if_pos c_20]) (by simp only [mCheck, if_neg c_10, if_pos c_20]) dX10_check_24

def mAllow (I : Nat → Int32) (x y : Int32) : Int32 × (Nat → Int32) :=
  if (mIn x 0 20) = 0 then (0, (upd I 0 0))
  else if (mIn y 0 20) = 0 then (0, (upd I 0 0))
    else (1, (upd (upd (upd I 0 0) 44 x) 45 y))
set_option maxHeartbeats 4000000 in
set_option maxRecDepth 100000 in
theorem m_allow (l : Launch) (G : gG) (ad : Nat → Nat) (I : Nat → Int32) (F : Nat → Nat → Int32) (rw : Nat) (gd gl : Int64) (x y : Int32) : cM l yX10_allow wsX10_allow 1 25 (0) (0) G [.ref (ad 0), .int x, .int y] (mW G ad I F rw gd gl) (qI G (S := Unit) (fun r _ => r = (mAllow I x y).1) (fun _ => mW G ad ((mAllow I x y).2) F rw gd gl)) := by
  refine o_M (cc := cX10_allow) (maxL := 3) (ret := (some .boolean)) (own := RX10) (by decide +kernel) rfl rfl (Nat.le_of_ble_eq_true rfl) ?_
  intro p e s m below meth c A ls H locs hA C h hr hlk hnm hl
  have hx := C.1.1.1
  have hb := C.1.1.2.1
  have hl : lv_has ls 3 [(0, .ref (ad 0)), (1, .int x), (2, .int y)] := hl
  have wd0 : Cond.fieldLink RX10 106 "ScaleHouseModel" "thrown" "I" ∈ wsX10_allow := by decide +kernel
  have hinX10 : ∀ w ∈ wsX100, w ∈ wsX10_allow := fun _ h => List.mem_cons_of_mem _ (List.mem_append_right _ h)
  have wd1 : Cond.fieldLink RX10 250 "ScaleHouseModel" "farD" "I" ∈ wsX10_allow := by decide +kernel
  have wd2 : Cond.fieldLink RX10 253 "ScaleHouseModel" "farL" "I" ∈ wsX10_allow := by decide +kernel
  refine lv_aload_n hx hb dX10_allow_0 rfl (lv_at hl 0 rfl) ?_
  refine lv_iconst (v := 0) hx hb dX10_allow_1 (by decide) ?_
  refine r_put C h 0 rfl (Cn := RX10) (T := TX10) (N := 50) rfl hinX10 tyX10 tyX10_ok nmX10 0 (by decide) (index := 106) (ref := "ScaleHouseModel") wd0 rfl rfl (v := .int 0) rfl rfl (show 0 < 50 by decide) dX10_allow_2 (fun H locs h => ?_)
  have h : gS G A s (mW G ad (upd I 0 0) F rw gd gl) H locs := h
  refine lv_iload_n hx hb dX10_allow_5 rfl (lv_at hl 1 rfl) ?_
  refine lv_iconst (v := 0) hx hb dX10_allow_6 (by decide) ?_
  refine lv_bipush (v := 20) hx hb dX10_allow_7 (by decide) ?_
  have hp : List.Perm (mW G ad (upd I 0 0) F rw gd gl : va_W) ([] ++ ([((ad 0), .inr (10, [.int 0, .ref (ad 1), .ref (ad 2), .ref (ad 3), .ref (ad 4), .ref (ad 5), .ref (ad 6), .ref (ad 7), .ref (ad 8), .ref (ad 9), .ref (ad 10), .ref (ad 11), .ref (ad 12), .ref (ad 13), .ref (ad 14), .ref (ad 15), .ref (ad 16), .ref (ad 17), .ref (ad 18), .ref (ad 19), .ref (ad 20), .ref (ad 21), .ref (ad 22), .int (I 23), .int (I 24), .int (I 25), .int (I 26), .int (I 27), .int (I 28), .int (I 29), .ref rw, .int (I 31), .int (I 32), .int (I 33), .int (I 34), .int (I 35), .long gd, .long gl, .ref (ad 38), .ref (ad 39), .ref (ad 40), .ref (ad 41), .ref (ad 42), .ref (ad 43), .int (I 44), .int (I 45), .int (I 46), .int (I 47), .int (I 48), .int (I 49)])), ((ad 1), .inl (G.2.2 0, 120, .inl (F 1))), ((ad 2), .inl (G.2.2 0, 2400, .inl (F 2))), ((ad 3), .inl (G.2.2 1, 20, .inl (F 3))), ((ad 4), .inl (G.2.2 1, 20, .inl (F 4))), ((ad 5), .inl (G.2.2 1, 20, .inl (F 5))), ((ad 6), .inl (G.2.2 1, 60, .inl (F 6))), ((ad 7), .inl (G.2.2 1, 60, .inl (F 7))), ((ad 8), .inl (G.2.2 1, 60, .inl (F 8))), ((ad 9), .inl (G.2.2 1, 60, .inl (F 9))), ((ad 10), .inl (G.2.2 1, 100, .inl (F 10))), ((ad 11), .inl (G.2.2 1, 100, .inl (F 11))), ((ad 12), .inl (G.2.2 1, 100, .inl (F 12))), ((ad 13), .inl (G.2.2 1, 100, .inl (F 13))), ((ad 14), .inl (G.2.2 1, 100, .inl (F 14))), ((ad 15), .inl (G.2.2 1, 100, .inl (F 15))), ((ad 16), .inl (G.2.2 1, 100, .inl (F 16))), ((ad 17), .inl (G.2.2 1, 100, .inl (F 17))), ((ad 18), .inl (G.2.2 1, 100, .inl (F 18))), ((ad 19), .inl (G.2.2 1, 6, .inl (F 19))), ((ad 20), .inl (G.2.2 1, 20000, .inl (F 20))), ((ad 21), .inl (G.2.2 1, 20000, .inl (F 21))), ((ad 22), .inl (G.2.2 1, 20000, .inl (F 22))), ((ad 38), .inl (G.2.2 1, 40, .inl (F 38))), ((ad 39), .inl (G.2.2 1, 40, .inl (F 39))), ((ad 40), .inl (G.2.2 1, 2, .inl (F 40))), ((ad 41), .inl (G.2.2 1, 20, .inl (F 41))), ((ad 42), .inl (G.2.2 3, 20, .inl (F 42))), ((ad 43), .inl (G.2.2 3, 20, .inl (F 43)))])) := List.Perm.refl _
  refine k_i C h hp (r_runS C h hp (As := [.int x, .int 0, .int 20]) (rest := []) (m_isIn l G x 0 20) (va_cwS 3 C.1.1.2.2.2.2 gX10_allow_X10_isIn rfl rfl rfl (by decide +kernel) ⟨Nat.le_of_ble_eq_true rfl, Nat.le_of_ble_eq_true rfl⟩) rfl hl.1 (Nat.le_of_ble_eq_true rfl) dX10_allow_9 ⟨Nat.le_of_ble_eq_true rfl, Nat.le_of_ble_eq_true rfl⟩) (fun r_1 u_2 H locs hw_3 h => ?_)
  have h : gS G A s (mW G ad (upd I 0 0) F rw gd gl) H locs := h
  refine W.widen (k := 0) (n := 0) (Nat.le_of_ble_eq_true rfl) (Nat.le_of_ble_eq_true rfl) ?_
  subst hw_3
  refine lv_if_eq (tgt := 25) hx hb dX10_allow_12 (by decide) (fun c_12 => ?_) (fun c_12 => ?_)
  · refine lv_iconst (v := 0) hx hb dX10_allow_25 (by decide) ?_
    exact r_zret C h hr hlk (Nat.zero_le _) (Nat.zero_le _) (Or.inl rfl) () (by simp only [mAllow, if_pos c_12]) (by simp only [mAllow, if_pos c_12]) dX10_allow_26
  · refine lv_iload_n hx hb dX10_allow_15 rfl (lv_at hl 2 rfl) ?_
    refine lv_iconst (v := 0) hx hb dX10_allow_16 (by decide) ?_
    refine lv_bipush (v := 20) hx hb dX10_allow_17 (by decide) ?_
    have hp : List.Perm (mW G ad (upd I 0 0) F rw gd gl : va_W) ([] ++ ([((ad 0), .inr (10, [.int 0, .ref (ad 1), .ref (ad 2), .ref (ad 3), .ref (ad 4), .ref (ad 5), .ref (ad 6), .ref (ad 7), .ref (ad 8), .ref (ad 9), .ref (ad 10), .ref (ad 11), .ref (ad 12), .ref (ad 13), .ref (ad 14), .ref (ad 15), .ref (ad 16), .ref (ad 17), .ref (ad 18), .ref (ad 19), .ref (ad 20), .ref (ad 21), .ref (ad 22), .int (I 23), .int (I 24), .int (I 25), .int (I 26), .int (I 27), .int (I 28), .int (I 29), .ref rw, .int (I 31), .int (I 32), .int (I 33), .int (I 34), .int (I 35), .long gd, .long gl, .ref (ad 38), .ref (ad 39), .ref (ad 40), .ref (ad 41), .ref (ad 42), .ref (ad 43), .int (I 44), .int (I 45), .int (I 46), .int (I 47), .int (I 48), .int (I 49)])), ((ad 1), .inl (G.2.2 0, 120, .inl (F 1))), ((ad 2), .inl (G.2.2 0, 2400, .inl (F 2))), ((ad 3), .inl (G.2.2 1, 20, .inl (F 3))), ((ad 4), .inl (G.2.2 1, 20, .inl (F 4))), ((ad 5), .inl (G.2.2 1, 20, .inl (F 5))), ((ad 6), .inl (G.2.2 1, 60, .inl (F 6))), ((ad 7), .inl (G.2.2 1, 60, .inl (F 7))), ((ad 8), .inl (G.2.2 1, 60, .inl (F 8))), ((ad 9), .inl (G.2.2 1, 60, .inl (F 9))), ((ad 10), .inl (G.2.2 1, 100, .inl (F 10))), ((ad 11), .inl (G.2.2 1, 100, .inl (F 11))), ((ad 12), .inl (G.2.2 1, 100, .inl (F 12))), ((ad 13), .inl (G.2.2 1, 100, .inl (F 13))), ((ad 14), .inl (G.2.2 1, 100, .inl (F 14))), ((ad 15), .inl (G.2.2 1, 100, .inl (F 15))), ((ad 16), .inl (G.2.2 1, 100, .inl (F 16))), ((ad 17), .inl (G.2.2 1, 100, .inl (F 17))), ((ad 18), .inl (G.2.2 1, 100, .inl (F 18))), ((ad 19), .inl (G.2.2 1, 6, .inl (F 19))), ((ad 20), .inl (G.2.2 1, 20000, .inl (F 20))), ((ad 21), .inl (G.2.2 1, 20000, .inl (F 21))), ((ad 22), .inl (G.2.2 1, 20000, .inl (F 22))), ((ad 38), .inl (G.2.2 1, 40, .inl (F 38))), ((ad 39), .inl (G.2.2 1, 40, .inl (F 39))), ((ad 40), .inl (G.2.2 1, 2, .inl (F 40))), ((ad 41), .inl (G.2.2 1, 20, .inl (F 41))), ((ad 42), .inl (G.2.2 3, 20, .inl (F 42))), ((ad 43), .inl (G.2.2 3, 20, .inl (F 43)))])) := List.Perm.refl _
    refine k_i C h hp (r_runS C h hp (As := [.int y, .int 0, .int 20]) (rest := []) (m_isIn l G y 0 20) (va_cwS 3 C.1.1.2.2.2.2 gX10_allow_X10_isIn rfl rfl rfl (by decide +kernel) ⟨Nat.le_of_ble_eq_true rfl, Nat.le_of_ble_eq_true rfl⟩) rfl hl.1 (Nat.le_of_ble_eq_true rfl) dX10_allow_19 ⟨Nat.le_of_ble_eq_true rfl, Nat.le_of_ble_eq_true rfl⟩) (fun r_4 u_5 H locs hw_6 h => ?_)
    have h : gS G A s (mW G ad (upd I 0 0) F rw gd gl) H locs := h
    refine W.widen (k := 0) (n := 0) (Nat.le_of_ble_eq_true rfl) (Nat.le_of_ble_eq_true rfl) ?_
    subst hw_6
    refine lv_if_ne (tgt := 27) hx hb dX10_allow_22 (by decide) (fun c_22 => ?_) (fun c_22 => ?_)
    · refine lv_aload_n hx hb dX10_allow_27 rfl (lv_at hl 0 rfl) ?_
      refine lv_iload_n hx hb dX10_allow_28 rfl (lv_at hl 1 rfl) ?_
      refine r_put C h 0 rfl (Cn := RX10) (T := TX10) (N := 50) rfl hinX10 tyX10 tyX10_ok nmX10 44 (by decide) (index := 250) (ref := "ScaleHouseModel") wd1 rfl rfl (v := .int x) rfl rfl (show 44 < 50 by decide) dX10_allow_29 (fun H locs h => ?_)
      have h : gS G A s (mW G ad (upd (upd I 0 0) 44 x) F rw gd gl) H locs := h
      refine lv_aload_n hx hb dX10_allow_32 rfl (lv_at hl 0 rfl) ?_
      refine lv_iload_n hx hb dX10_allow_33 rfl (lv_at hl 2 rfl) ?_
      refine r_put C h 0 rfl (Cn := RX10) (T := TX10) (N := 50) rfl hinX10 tyX10 tyX10_ok nmX10 45 (by decide) (index := 253) (ref := "ScaleHouseModel") wd2 rfl rfl (v := .int y) rfl rfl (show 45 < 50 by decide) dX10_allow_34 (fun H locs h => ?_)
      have h : gS G A s (mW G ad (upd (upd (upd I 0 0) 44 x) 45 y) F rw gd gl) H locs := h
      refine lv_iconst (v := 1) hx hb dX10_allow_37 (by decide) ?_
      exact r_zret C h hr hlk (Nat.zero_le _) (Nat.zero_le _) (Or.inr rfl) () (by simp only [mAllow, if_neg c_12, if_neg c_22]) (by simp only [mAllow, if_neg c_12, if_neg c_22]) dX10_allow_38
    · refine lv_iconst (v := 0) hx hb dX10_allow_25 (by decide) ?_
      exact r_zret C h hr hlk (Nat.zero_le _) (Nat.zero_le _) (Or.inl rfl) () (by simp only [mAllow, if_neg c_12, if_pos c_22]) (by simp only [mAllow, if_neg c_12, if_pos c_22]) dX10_allow_26

def mClear (I : Nat → Int32) (F : Nat → Nat → Int32) : (Nat → Int32) × (Nat → Nat → Int32) :=
  ((upd I 0 0), (va_up F 40 (upd (upd (F 40) 0 0) 1 0)))
set_option maxHeartbeats 4000000 in
set_option maxRecDepth 100000 in
theorem m_clear (l : Launch) (G : gG) (ad : Nat → Nat) (I : Nat → Int32) (F : Nat → Nat → Int32) (rw : Nat) (gd gl : Int64) : cM l yX10_clear wsX10_clear 0 0 (0) (0) G [.ref (ad 0)] (mW G ad I F rw gd gl) (qV G (S := Unit) (fun _ => True) (fun _ => mW G ad ((mClear I F).1) ((mClear I F).2) rw gd gl)) := by
  refine o_M (cc := cX10_clear) (maxL := 1) (ret := none) (own := RX10) (by decide +kernel) rfl rfl (Nat.le_of_ble_eq_true rfl) ?_
  intro p e s m below meth c A ls H locs hA C h hr hlk hnm hl
  have hx := C.1.1.1
  have hb := C.1.1.2.1
  have hl : lv_has ls 1 [(0, .ref (ad 0))] := hl
  have wd0 : Cond.fieldLink RX10 106 "ScaleHouseModel" "thrown" "I" ∈ wsX10_clear := by decide +kernel
  have hinX10 : ∀ w ∈ wsX100, w ∈ wsX10_clear := fun _ h => List.mem_cons_of_mem _ (List.mem_append_right _ h)
  have wd1 : Cond.fieldLink RX10 86 "ScaleHouseModel" "rows" "[I" ∈ wsX10_clear := by decide +kernel
  refine lv_aload_n hx hb dX10_clear_0 rfl (lv_at hl 0 rfl) ?_
  refine lv_iconst (v := 0) hx hb dX10_clear_1 (by decide) ?_
  refine r_put C h 0 rfl (Cn := RX10) (T := TX10) (N := 50) rfl hinX10 tyX10 tyX10_ok nmX10 0 (by decide) (index := 106) (ref := "ScaleHouseModel") wd0 rfl rfl (v := .int 0) rfl rfl (show 0 < 50 by decide) dX10_clear_2 (fun H locs h => ?_)
  have h : gS G A s (mW G ad (upd I 0 0) F rw gd gl) H locs := h
  refine lv_aload_n hx hb dX10_clear_5 rfl (lv_at hl 0 rfl) ?_
  refine r_get C h 0 rfl (Cn := RX10) (T := TX10) (N := 50) rfl hinX10 40 (by decide) (index := 86) (ref := "ScaleHouseModel") wd1 rfl (v := .ref (ad 40)) rfl dX10_clear_6 ?_
  refine lv_iconst (v := 0) hx hb dX10_clear_9 (by decide) ?_
  refine lv_iconst (v := 0) hx hb dX10_clear_10 (by decide) ?_
  refine r_iast C h 25 rfl (i := 0) (by unfold vp_in; decide) dX10_clear_11 (fun H locs h => ?_)
  have h : gS G A s (mW G ad (upd I 0 0) (va_up F 40 (upd (F 40) (0 : Int32).toNatClampNeg 0)) rw gd gl) H locs := h
  rw [show (upd (F 40) (0 : Int32).toNatClampNeg 0) = (upd (F 40) 0 0) from rfl] at h
  have h : gS G A s (mW G ad (upd I 0 0) (va_up F 40 (upd (F 40) 0 0)) rw gd gl) H locs := h
  refine lv_aload_n hx hb dX10_clear_12 rfl (lv_at hl 0 rfl) ?_
  refine r_get C h 0 rfl (Cn := RX10) (T := TX10) (N := 50) rfl hinX10 40 (by decide) (index := 86) (ref := "ScaleHouseModel") wd1 rfl (v := .ref (ad 40)) rfl dX10_clear_13 ?_
  refine lv_iconst (v := 1) hx hb dX10_clear_16 (by decide) ?_
  refine lv_iconst (v := 0) hx hb dX10_clear_17 (by decide) ?_
  refine r_iast C h 25 rfl (i := 1) (by unfold vp_in; decide) dX10_clear_18 (fun H locs h => ?_)
  have h : gS G A s (mW G ad (upd I 0 0) (va_up F 40 (upd (upd (F 40) 0 0) (1 : Int32).toNatClampNeg 0)) rw gd gl) H locs := h
  rw [show (upd (upd (F 40) 0 0) (1 : Int32).toNatClampNeg 0) = (upd (upd (F 40) 0 0) 1 0) from rfl] at h
  have h : gS G A s (mW G ad (upd I 0 0) (va_up F 40 (upd (upd (F 40) 0 0) 1 0)) rw gd gl) H locs := h
  exact r_vret C h hr hlk (Nat.zero_le _) (Nat.zero_le _) () (trivial) (by simp only [mClear]) dX10_clear_19

def mLine (I : Nat → Int32) (F : Nat → Nat → Int32) (x y : Int32) : Int32 × (Nat → Int32) :=
  if (mIn x 0 ((I 28) - 1)) = 0 then ((-1000000000), (upd I 0 0))
  else if (mIn y 0 2) = 0 then ((-1000000000), (upd I 0 0))
    else if y = 0 then (((F 20) x.toNatClampNeg), (upd I 0 0))
      else if y = 1 then (((F 21) x.toNatClampNeg), (upd I 0 0))
        else (((F 22) x.toNatClampNeg), (upd I 0 0))
set_option maxHeartbeats 4000000 in
set_option maxRecDepth 100000 in
theorem m_line (l : Launch) (G : gG) (ad : Nat → Nat) (I : Nat → Int32) (F : Nat → Nat → Int32) (rw : Nat) (gd gl : Int64) (x y : Int32) (hln : lim (I 28) 20000) : cM l yX10_line wsX10_line 1 25 (0) (0) G [.ref (ad 0), .int x, .int y] (mW G ad I F rw gd gl) (qI G (S := Unit) (fun r _ => r = (mLine I F x y).1) (fun _ => mW G ad ((mLine I F x y).2) F rw gd gl)) := by
  refine o_M (cc := cX10_line) (maxL := 3) (ret := (some .int)) (own := RX10) (by decide +kernel) rfl rfl (Nat.le_of_ble_eq_true rfl) ?_
  intro p e s m below meth c A ls H locs hA C h hr hlk hnm hl
  have hx := C.1.1.1
  have hb := C.1.1.2.1
  have hl : lv_has ls 3 [(0, .ref (ad 0)), (1, .int x), (2, .int y)] := hl
  have wd0 : Cond.fieldLink RX10 106 "ScaleHouseModel" "thrown" "I" ∈ wsX10_line := by decide +kernel
  have hinX10 : ∀ w ∈ wsX100, w ∈ wsX10_line := fun _ h => List.mem_cons_of_mem _ (List.mem_append_right _ h)
  have wd1 : Cond.fieldLink RX10 241 "ScaleHouseModel" "lines" "I" ∈ wsX10_line := by decide +kernel
  have wd2 : Cond.constant RX10 247 (-1000000000) ∈ wsX10_line := by decide +kernel
  have wd3 : Cond.fieldLink RX10 74 "ScaleHouseModel" "lineCoins" "[I" ∈ wsX10_line := by decide +kernel
  have wd4 : Cond.fieldLink RX10 71 "ScaleHouseModel" "lineLog" "[I" ∈ wsX10_line := by decide +kernel
  have wd5 : Cond.fieldLink RX10 68 "ScaleHouseModel" "lineDay" "[I" ∈ wsX10_line := by decide +kernel
  refine lv_aload_n hx hb dX10_line_0 rfl (lv_at hl 0 rfl) ?_
  refine lv_iconst (v := 0) hx hb dX10_line_1 (by decide) ?_
  refine r_put C h 0 rfl (Cn := RX10) (T := TX10) (N := 50) rfl hinX10 tyX10 tyX10_ok nmX10 0 (by decide) (index := 106) (ref := "ScaleHouseModel") wd0 rfl rfl (v := .int 0) rfl rfl (show 0 < 50 by decide) dX10_line_2 (fun H locs h => ?_)
  have h : gS G A s (mW G ad (upd I 0 0) F rw gd gl) H locs := h
  refine lv_iload_n hx hb dX10_line_5 rfl (lv_at hl 1 rfl) ?_
  refine lv_iconst (v := 0) hx hb dX10_line_6 (by decide) ?_
  refine lv_aload_n hx hb dX10_line_7 rfl (lv_at hl 0 rfl) ?_
  refine r_get C h 0 rfl (Cn := RX10) (T := TX10) (N := 50) rfl hinX10 28 (by decide) (index := 241) (ref := "ScaleHouseModel") wd1 rfl (v := .int (I 28)) rfl dX10_line_8 ?_
  refine lv_iconst (v := 1) hx hb dX10_line_11 (by decide) ?_
  refine lv_isub hx hb dX10_line_12 ?_
  have hp : List.Perm (mW G ad (upd I 0 0) F rw gd gl : va_W) ([] ++ ([((ad 0), .inr (10, [.int 0, .ref (ad 1), .ref (ad 2), .ref (ad 3), .ref (ad 4), .ref (ad 5), .ref (ad 6), .ref (ad 7), .ref (ad 8), .ref (ad 9), .ref (ad 10), .ref (ad 11), .ref (ad 12), .ref (ad 13), .ref (ad 14), .ref (ad 15), .ref (ad 16), .ref (ad 17), .ref (ad 18), .ref (ad 19), .ref (ad 20), .ref (ad 21), .ref (ad 22), .int (I 23), .int (I 24), .int (I 25), .int (I 26), .int (I 27), .int (I 28), .int (I 29), .ref rw, .int (I 31), .int (I 32), .int (I 33), .int (I 34), .int (I 35), .long gd, .long gl, .ref (ad 38), .ref (ad 39), .ref (ad 40), .ref (ad 41), .ref (ad 42), .ref (ad 43), .int (I 44), .int (I 45), .int (I 46), .int (I 47), .int (I 48), .int (I 49)])), ((ad 1), .inl (G.2.2 0, 120, .inl (F 1))), ((ad 2), .inl (G.2.2 0, 2400, .inl (F 2))), ((ad 3), .inl (G.2.2 1, 20, .inl (F 3))), ((ad 4), .inl (G.2.2 1, 20, .inl (F 4))), ((ad 5), .inl (G.2.2 1, 20, .inl (F 5))), ((ad 6), .inl (G.2.2 1, 60, .inl (F 6))), ((ad 7), .inl (G.2.2 1, 60, .inl (F 7))), ((ad 8), .inl (G.2.2 1, 60, .inl (F 8))), ((ad 9), .inl (G.2.2 1, 60, .inl (F 9))), ((ad 10), .inl (G.2.2 1, 100, .inl (F 10))), ((ad 11), .inl (G.2.2 1, 100, .inl (F 11))), ((ad 12), .inl (G.2.2 1, 100, .inl (F 12))), ((ad 13), .inl (G.2.2 1, 100, .inl (F 13))), ((ad 14), .inl (G.2.2 1, 100, .inl (F 14))), ((ad 15), .inl (G.2.2 1, 100, .inl (F 15))), ((ad 16), .inl (G.2.2 1, 100, .inl (F 16))), ((ad 17), .inl (G.2.2 1, 100, .inl (F 17))), ((ad 18), .inl (G.2.2 1, 100, .inl (F 18))), ((ad 19), .inl (G.2.2 1, 6, .inl (F 19))), ((ad 20), .inl (G.2.2 1, 20000, .inl (F 20))), ((ad 21), .inl (G.2.2 1, 20000, .inl (F 21))), ((ad 22), .inl (G.2.2 1, 20000, .inl (F 22))), ((ad 38), .inl (G.2.2 1, 40, .inl (F 38))), ((ad 39), .inl (G.2.2 1, 40, .inl (F 39))), ((ad 40), .inl (G.2.2 1, 2, .inl (F 40))), ((ad 41), .inl (G.2.2 1, 20, .inl (F 41))), ((ad 42), .inl (G.2.2 3, 20, .inl (F 42))), ((ad 43), .inl (G.2.2 3, 20, .inl (F 43)))])) := List.Perm.refl _
  refine k_i C h hp (r_runS C h hp (As := [.int x, .int 0, .int ((I 28) - 1)]) (rest := []) (m_isIn l G x 0 ((I 28) - 1)) (va_cwS 3 C.1.1.2.2.2.2 gX10_line_X10_isIn rfl rfl rfl (by decide +kernel) ⟨Nat.le_of_ble_eq_true rfl, Nat.le_of_ble_eq_true rfl⟩) rfl hl.1 (Nat.le_of_ble_eq_true rfl) dX10_line_13 ⟨Nat.le_of_ble_eq_true rfl, Nat.le_of_ble_eq_true rfl⟩) (fun r_1 u_2 H locs hw_3 h => ?_)
  have h : gS G A s (mW G ad (upd I 0 0) F rw gd gl) H locs := h
  refine W.widen (k := 0) (n := 0) (Nat.le_of_ble_eq_true rfl) (Nat.le_of_ble_eq_true rfl) ?_
  subst hw_3
  refine lv_if_eq (tgt := 28) hx hb dX10_line_16 (by decide) (fun c_16 => ?_) (fun c_16 => ?_)
  · refine r_ldc C (v := -1000000000) wd2 dX10_line_28 ?_
    exact r_iret C h hr hlk (Nat.zero_le _) (Nat.zero_le _) () (by simp only [mLine, if_pos c_16]) (by simp only [mLine, if_pos c_16]) dX10_line_30
  · refine lv_iload_n hx hb dX10_line_19 rfl (lv_at hl 2 rfl) ?_
    refine lv_iconst (v := 0) hx hb dX10_line_20 (by decide) ?_
    refine lv_iconst (v := 2) hx hb dX10_line_21 (by decide) ?_
    have hp : List.Perm (mW G ad (upd I 0 0) F rw gd gl : va_W) ([] ++ ([((ad 0), .inr (10, [.int 0, .ref (ad 1), .ref (ad 2), .ref (ad 3), .ref (ad 4), .ref (ad 5), .ref (ad 6), .ref (ad 7), .ref (ad 8), .ref (ad 9), .ref (ad 10), .ref (ad 11), .ref (ad 12), .ref (ad 13), .ref (ad 14), .ref (ad 15), .ref (ad 16), .ref (ad 17), .ref (ad 18), .ref (ad 19), .ref (ad 20), .ref (ad 21), .ref (ad 22), .int (I 23), .int (I 24), .int (I 25), .int (I 26), .int (I 27), .int (I 28), .int (I 29), .ref rw, .int (I 31), .int (I 32), .int (I 33), .int (I 34), .int (I 35), .long gd, .long gl, .ref (ad 38), .ref (ad 39), .ref (ad 40), .ref (ad 41), .ref (ad 42), .ref (ad 43), .int (I 44), .int (I 45), .int (I 46), .int (I 47), .int (I 48), .int (I 49)])), ((ad 1), .inl (G.2.2 0, 120, .inl (F 1))), ((ad 2), .inl (G.2.2 0, 2400, .inl (F 2))), ((ad 3), .inl (G.2.2 1, 20, .inl (F 3))), ((ad 4), .inl (G.2.2 1, 20, .inl (F 4))), ((ad 5), .inl (G.2.2 1, 20, .inl (F 5))), ((ad 6), .inl (G.2.2 1, 60, .inl (F 6))), ((ad 7), .inl (G.2.2 1, 60, .inl (F 7))), ((ad 8), .inl (G.2.2 1, 60, .inl (F 8))), ((ad 9), .inl (G.2.2 1, 60, .inl (F 9))), ((ad 10), .inl (G.2.2 1, 100, .inl (F 10))), ((ad 11), .inl (G.2.2 1, 100, .inl (F 11))), ((ad 12), .inl (G.2.2 1, 100, .inl (F 12))), ((ad 13), .inl (G.2.2 1, 100, .inl (F 13))), ((ad 14), .inl (G.2.2 1, 100, .inl (F 14))), ((ad 15), .inl (G.2.2 1, 100, .inl (F 15))), ((ad 16), .inl (G.2.2 1, 100, .inl (F 16))), ((ad 17), .inl (G.2.2 1, 100, .inl (F 17))), ((ad 18), .inl (G.2.2 1, 100, .inl (F 18))), ((ad 19), .inl (G.2.2 1, 6, .inl (F 19))), ((ad 20), .inl (G.2.2 1, 20000, .inl (F 20))), ((ad 21), .inl (G.2.2 1, 20000, .inl (F 21))), ((ad 22), .inl (G.2.2 1, 20000, .inl (F 22))), ((ad 38), .inl (G.2.2 1, 40, .inl (F 38))), ((ad 39), .inl (G.2.2 1, 40, .inl (F 39))), ((ad 40), .inl (G.2.2 1, 2, .inl (F 40))), ((ad 41), .inl (G.2.2 1, 20, .inl (F 41))), ((ad 42), .inl (G.2.2 3, 20, .inl (F 42))), ((ad 43), .inl (G.2.2 3, 20, .inl (F 43)))])) := List.Perm.refl _
    refine k_i C h hp (r_runS C h hp (As := [.int y, .int 0, .int 2]) (rest := []) (m_isIn l G y 0 2) (va_cwS 3 C.1.1.2.2.2.2 gX10_line_X10_isIn rfl rfl rfl (by decide +kernel) ⟨Nat.le_of_ble_eq_true rfl, Nat.le_of_ble_eq_true rfl⟩) rfl hl.1 (Nat.le_of_ble_eq_true rfl) dX10_line_22 ⟨Nat.le_of_ble_eq_true rfl, Nat.le_of_ble_eq_true rfl⟩) (fun r_4 u_5 H locs hw_6 h => ?_)
    have h : gS G A s (mW G ad (upd I 0 0) F rw gd gl) H locs := h
    refine W.widen (k := 0) (n := 0) (Nat.le_of_ble_eq_true rfl) (Nat.le_of_ble_eq_true rfl) ?_
    subst hw_6
    refine lv_if_ne (tgt := 31) hx hb dX10_line_25 (by decide) (fun c_25 => ?_) (fun c_25 => ?_)
    · refine lv_iload_n hx hb dX10_line_31 rfl (lv_at hl 2 rfl) ?_
      refine lv_if_ne (tgt := 44) hx hb dX10_line_32 (by decide) (fun c_32 => ?_) (fun c_32 => ?_)
      · refine lv_iload_n hx hb dX10_line_44 rfl (lv_at hl 2 rfl) ?_
        refine lv_iconst (v := 1) hx hb dX10_line_45 (by decide) ?_
        refine lv_icmp_ne (tgt := 58) hx hb dX10_line_46 (by decide) (fun c_46 => ?_) (fun c_46 => ?_)
        · refine lv_aload_n hx hb dX10_line_58 rfl (lv_at hl 0 rfl) ?_
          refine r_get C h 0 rfl (Cn := RX10) (T := TX10) (N := 50) rfl hinX10 22 (by decide) (index := 74) (ref := "ScaleHouseModel") wd3 rfl (v := .ref (ad 22)) rfl dX10_line_59 ?_
          refine lv_iload_n hx hb dX10_line_62 rfl (lv_at hl 1 rfl) ?_
          refine r_iald C h 22 rfl (i := x) (mIn_lim (by assumption) hln (by decide)) dX10_line_63 ?_
          exact r_iret C h hr hlk (Nat.zero_le _) (Nat.zero_le _) () (by simp only [mLine, if_neg c_16, if_neg c_25, if_neg c_32, if_neg c_46]) (by simp only [mLine, if_neg c_16, if_neg c_25, if_neg c_32, if_neg c_46]) dX10_line_64
        · refine lv_aload_n hx hb dX10_line_49 rfl (lv_at hl 0 rfl) ?_
          refine r_get C h 0 rfl (Cn := RX10) (T := TX10) (N := 50) rfl hinX10 21 (by decide) (index := 71) (ref := "ScaleHouseModel") wd4 rfl (v := .ref (ad 21)) rfl dX10_line_50 ?_
          refine lv_iload_n hx hb dX10_line_53 rfl (lv_at hl 1 rfl) ?_
          refine r_iald C h 21 rfl (i := x) (mIn_lim (by assumption) hln (by decide)) dX10_line_54 ?_
          refine lv_goto (tgt := 64) hx hb dX10_line_55 (by decide) ?_
          exact r_iret C h hr hlk (Nat.zero_le _) (Nat.zero_le _) () (by simp only [mLine, if_neg c_16, if_neg c_25, if_neg c_32, if_pos c_46]) (by simp only [mLine, if_neg c_16, if_neg c_25, if_neg c_32, if_pos c_46]) dX10_line_64
      · refine lv_aload_n hx hb dX10_line_35 rfl (lv_at hl 0 rfl) ?_
        refine r_get C h 0 rfl (Cn := RX10) (T := TX10) (N := 50) rfl hinX10 20 (by decide) (index := 68) (ref := "ScaleHouseModel") wd5 rfl (v := .ref (ad 20)) rfl dX10_line_36 ?_
        refine lv_iload_n hx hb dX10_line_39 rfl (lv_at hl 1 rfl) ?_
        refine r_iald C h 20 rfl (i := x) (mIn_lim (by assumption) hln (by decide)) dX10_line_40 ?_
        refine lv_goto (tgt := 64) hx hb dX10_line_41 (by decide) ?_
        exact r_iret C h hr hlk (Nat.zero_le _) (Nat.zero_le _) () (by simp only [mLine, if_neg c_16, if_neg c_25, if_pos c_32]) (by simp only [mLine, if_neg c_16, if_neg c_25, if_pos c_32]) dX10_line_64
    · refine r_ldc C (v := -1000000000) wd2 dX10_line_28 ?_
      exact r_iret C h hr hlk (Nat.zero_le _) (Nat.zero_le _) () (by simp only [mLine, if_neg c_16, if_pos c_25]) (by simp only [mLine, if_neg c_16, if_pos c_25]) dX10_line_30

def mLog (I : Nat → Int32) (F : Nat → Nat → Int32) (a b c9 d : Int32) : Int32 × (Nat → Int32) × (Nat → Nat → Int32) :=
  if (I 27) = 100 then ((-1), (upd I 0 0), F)
  else if (mIn a 0 5) = 0 then ((-1), (upd I 0 0), F)
    else if (mIn b 0 5) = 0 then ((-1), (upd I 0 0), F)
      else if (mIn c9 1 99) = 0 then ((-1), (upd I 0 0), F)
        else if (mIn d 1 60) = 0 then ((-1), (upd I 0 0), F)
          else ((((I 27) + 1) - 1), (upd (upd I 0 0) 27 ((I 27) + 1)), (va_up (va_up (va_up (va_up (va_up F 10 (upd (F 10) (I 27).toNatClampNeg a)) 11 (upd (F 11) (I 27).toNatClampNeg b)) 12 (upd (F 12) (I 27).toNatClampNeg c9)) 13 (upd (F 13) (I 27).toNatClampNeg d)) 14 (upd (F 14) (I 27).toNatClampNeg (I 24))))
set_option maxHeartbeats 4000000 in
set_option maxRecDepth 100000 in
theorem m_log (l : Launch) (G : gG) (ad : Nat → Nat) (I : Nat → Int32) (F : Nat → Nat → Int32) (rw : Nat) (gd gl : Int64) (a b c9 d : Int32) (hlg : lim (I 27) 100) : cM l yX10_log wsX10_log 1 25 (0) (0) G [.ref (ad 0), .int a, .int b, .int c9, .int d] (mW G ad I F rw gd gl) (qI G (S := Unit) (fun r _ => r = (mLog I F a b c9 d).1) (fun _ => mW G ad ((mLog I F a b c9 d).2.1) ((mLog I F a b c9 d).2.2) rw gd gl)) := by
  refine o_M (cc := cX10_log) (maxL := 5) (ret := (some .int)) (own := RX10) (by decide +kernel) rfl rfl (Nat.le_of_ble_eq_true rfl) ?_
  intro p e s m below meth c A ls H locs hA C h hr hlk hnm hl
  have hx := C.1.1.1
  have hb := C.1.1.2.1
  have hl : lv_has ls 5 [(0, .ref (ad 0)), (1, .int a), (2, .int b), (3, .int c9), (4, .int d)] := hl
  have wd0 : Cond.fieldLink RX10 106 "ScaleHouseModel" "thrown" "I" ∈ wsX10_log := by decide +kernel
  have hinX10 : ∀ w ∈ wsX100, w ∈ wsX10_log := fun _ h => List.mem_cons_of_mem _ (List.mem_append_right _ h)
  have wd1 : Cond.fieldLink RX10 219 "ScaleHouseModel" "logs" "I" ∈ wsX10_log := by decide +kernel
  have wd2 : Cond.fieldLink RX10 38 "ScaleHouseModel" "logOwner" "[I" ∈ wsX10_log := by decide +kernel
  have wd3 : Cond.fieldLink RX10 41 "ScaleHouseModel" "logStick" "[I" ∈ wsX10_log := by decide +kernel
  have wd4 : Cond.fieldLink RX10 44 "ScaleHouseModel" "logRead" "[I" ∈ wsX10_log := by decide +kernel
  have wd5 : Cond.fieldLink RX10 47 "ScaleHouseModel" "logLong" "[I" ∈ wsX10_log := by decide +kernel
  have wd6 : Cond.fieldLink RX10 50 "ScaleHouseModel" "logDay" "[I" ∈ wsX10_log := by decide +kernel
  have wd7 : Cond.fieldLink RX10 202 "ScaleHouseModel" "now" "I" ∈ wsX10_log := by decide +kernel
  refine lv_aload_n hx hb dX10_log_0 rfl (lv_at hl 0 rfl) ?_
  refine lv_iconst (v := 0) hx hb dX10_log_1 (by decide) ?_
  refine r_put C h 0 rfl (Cn := RX10) (T := TX10) (N := 50) rfl hinX10 tyX10 tyX10_ok nmX10 0 (by decide) (index := 106) (ref := "ScaleHouseModel") wd0 rfl rfl (v := .int 0) rfl rfl (show 0 < 50 by decide) dX10_log_2 (fun H locs h => ?_)
  have h : gS G A s (mW G ad (upd I 0 0) F rw gd gl) H locs := h
  refine lv_aload_n hx hb dX10_log_5 rfl (lv_at hl 0 rfl) ?_
  refine r_get C h 0 rfl (Cn := RX10) (T := TX10) (N := 50) rfl hinX10 27 (by decide) (index := 219) (ref := "ScaleHouseModel") wd1 rfl (v := .int (I 27)) rfl dX10_log_6 ?_
  refine lv_bipush (v := 100) hx hb dX10_log_9 (by decide) ?_
  refine lv_icmp_eq (tgt := 53) hx hb dX10_log_11 (by decide) (fun c_11 => ?_) (fun c_11 => ?_)
  · refine lv_iconst (v := -1) hx hb dX10_log_53 (by decide) ?_
    exact r_iret C h hr hlk (Nat.zero_le _) (Nat.zero_le _) () (by simp only [mLog, if_pos c_11]) (by simp only [mLog, if_pos c_11]) dX10_log_54
  · refine lv_iload_n hx hb dX10_log_14 rfl (lv_at hl 1 rfl) ?_
    refine lv_iconst (v := 0) hx hb dX10_log_15 (by decide) ?_
    refine lv_iconst (v := 5) hx hb dX10_log_16 (by decide) ?_
    have hp : List.Perm (mW G ad (upd I 0 0) F rw gd gl : va_W) ([] ++ ([((ad 0), .inr (10, [.int 0, .ref (ad 1), .ref (ad 2), .ref (ad 3), .ref (ad 4), .ref (ad 5), .ref (ad 6), .ref (ad 7), .ref (ad 8), .ref (ad 9), .ref (ad 10), .ref (ad 11), .ref (ad 12), .ref (ad 13), .ref (ad 14), .ref (ad 15), .ref (ad 16), .ref (ad 17), .ref (ad 18), .ref (ad 19), .ref (ad 20), .ref (ad 21), .ref (ad 22), .int (I 23), .int (I 24), .int (I 25), .int (I 26), .int (I 27), .int (I 28), .int (I 29), .ref rw, .int (I 31), .int (I 32), .int (I 33), .int (I 34), .int (I 35), .long gd, .long gl, .ref (ad 38), .ref (ad 39), .ref (ad 40), .ref (ad 41), .ref (ad 42), .ref (ad 43), .int (I 44), .int (I 45), .int (I 46), .int (I 47), .int (I 48), .int (I 49)])), ((ad 1), .inl (G.2.2 0, 120, .inl (F 1))), ((ad 2), .inl (G.2.2 0, 2400, .inl (F 2))), ((ad 3), .inl (G.2.2 1, 20, .inl (F 3))), ((ad 4), .inl (G.2.2 1, 20, .inl (F 4))), ((ad 5), .inl (G.2.2 1, 20, .inl (F 5))), ((ad 6), .inl (G.2.2 1, 60, .inl (F 6))), ((ad 7), .inl (G.2.2 1, 60, .inl (F 7))), ((ad 8), .inl (G.2.2 1, 60, .inl (F 8))), ((ad 9), .inl (G.2.2 1, 60, .inl (F 9))), ((ad 10), .inl (G.2.2 1, 100, .inl (F 10))), ((ad 11), .inl (G.2.2 1, 100, .inl (F 11))), ((ad 12), .inl (G.2.2 1, 100, .inl (F 12))), ((ad 13), .inl (G.2.2 1, 100, .inl (F 13))), ((ad 14), .inl (G.2.2 1, 100, .inl (F 14))), ((ad 15), .inl (G.2.2 1, 100, .inl (F 15))), ((ad 16), .inl (G.2.2 1, 100, .inl (F 16))), ((ad 17), .inl (G.2.2 1, 100, .inl (F 17))), ((ad 18), .inl (G.2.2 1, 100, .inl (F 18))), ((ad 19), .inl (G.2.2 1, 6, .inl (F 19))), ((ad 20), .inl (G.2.2 1, 20000, .inl (F 20))), ((ad 21), .inl (G.2.2 1, 20000, .inl (F 21))), ((ad 22), .inl (G.2.2 1, 20000, .inl (F 22))), ((ad 38), .inl (G.2.2 1, 40, .inl (F 38))), ((ad 39), .inl (G.2.2 1, 40, .inl (F 39))), ((ad 40), .inl (G.2.2 1, 2, .inl (F 40))), ((ad 41), .inl (G.2.2 1, 20, .inl (F 41))), ((ad 42), .inl (G.2.2 3, 20, .inl (F 42))), ((ad 43), .inl (G.2.2 3, 20, .inl (F 43)))])) := List.Perm.refl _
    refine k_i C h hp (r_runS C h hp (As := [.int a, .int 0, .int 5]) (rest := []) (m_isIn l G a 0 5) (va_cwS 3 C.1.1.2.2.2.2 gX10_log_X10_isIn rfl rfl rfl (by decide +kernel) ⟨Nat.le_of_ble_eq_true rfl, Nat.le_of_ble_eq_true rfl⟩) rfl hl.1 (Nat.le_of_ble_eq_true rfl) dX10_log_17 ⟨Nat.le_of_ble_eq_true rfl, Nat.le_of_ble_eq_true rfl⟩) (fun r_1 u_2 H locs hw_3 h => ?_)
    have h : gS G A s (mW G ad (upd I 0 0) F rw gd gl) H locs := h
    refine W.widen (k := 0) (n := 0) (Nat.le_of_ble_eq_true rfl) (Nat.le_of_ble_eq_true rfl) ?_
    subst hw_3
    refine lv_if_eq (tgt := 53) hx hb dX10_log_20 (by decide) (fun c_20 => ?_) (fun c_20 => ?_)
    · refine lv_iconst (v := -1) hx hb dX10_log_53 (by decide) ?_
      exact r_iret C h hr hlk (Nat.zero_le _) (Nat.zero_le _) () (by simp only [mLog, if_neg c_11, if_pos c_20]) (by simp only [mLog, if_neg c_11, if_pos c_20]) dX10_log_54
    · refine lv_iload_n hx hb dX10_log_23 rfl (lv_at hl 2 rfl) ?_
      refine lv_iconst (v := 0) hx hb dX10_log_24 (by decide) ?_
      refine lv_iconst (v := 5) hx hb dX10_log_25 (by decide) ?_
      have hp : List.Perm (mW G ad (upd I 0 0) F rw gd gl : va_W) ([] ++ ([((ad 0), .inr (10, [.int 0, .ref (ad 1), .ref (ad 2), .ref (ad 3), .ref (ad 4), .ref (ad 5), .ref (ad 6), .ref (ad 7), .ref (ad 8), .ref (ad 9), .ref (ad 10), .ref (ad 11), .ref (ad 12), .ref (ad 13), .ref (ad 14), .ref (ad 15), .ref (ad 16), .ref (ad 17), .ref (ad 18), .ref (ad 19), .ref (ad 20), .ref (ad 21), .ref (ad 22), .int (I 23), .int (I 24), .int (I 25), .int (I 26), .int (I 27), .int (I 28), .int (I 29), .ref rw, .int (I 31), .int (I 32), .int (I 33), .int (I 34), .int (I 35), .long gd, .long gl, .ref (ad 38), .ref (ad 39), .ref (ad 40), .ref (ad 41), .ref (ad 42), .ref (ad 43), .int (I 44), .int (I 45), .int (I 46), .int (I 47), .int (I 48), .int (I 49)])), ((ad 1), .inl (G.2.2 0, 120, .inl (F 1))), ((ad 2), .inl (G.2.2 0, 2400, .inl (F 2))), ((ad 3), .inl (G.2.2 1, 20, .inl (F 3))), ((ad 4), .inl (G.2.2 1, 20, .inl (F 4))), ((ad 5), .inl (G.2.2 1, 20, .inl (F 5))), ((ad 6), .inl (G.2.2 1, 60, .inl (F 6))), ((ad 7), .inl (G.2.2 1, 60, .inl (F 7))), ((ad 8), .inl (G.2.2 1, 60, .inl (F 8))), ((ad 9), .inl (G.2.2 1, 60, .inl (F 9))), ((ad 10), .inl (G.2.2 1, 100, .inl (F 10))), ((ad 11), .inl (G.2.2 1, 100, .inl (F 11))), ((ad 12), .inl (G.2.2 1, 100, .inl (F 12))), ((ad 13), .inl (G.2.2 1, 100, .inl (F 13))), ((ad 14), .inl (G.2.2 1, 100, .inl (F 14))), ((ad 15), .inl (G.2.2 1, 100, .inl (F 15))), ((ad 16), .inl (G.2.2 1, 100, .inl (F 16))), ((ad 17), .inl (G.2.2 1, 100, .inl (F 17))), ((ad 18), .inl (G.2.2 1, 100, .inl (F 18))), ((ad 19), .inl (G.2.2 1, 6, .inl (F 19))), ((ad 20), .inl (G.2.2 1, 20000, .inl (F 20))), ((ad 21), .inl (G.2.2 1, 20000, .inl (F 21))), ((ad 22), .inl (G.2.2 1, 20000, .inl (F 22))), ((ad 38), .inl (G.2.2 1, 40, .inl (F 38))), ((ad 39), .inl (G.2.2 1, 40, .inl (F 39))), ((ad 40), .inl (G.2.2 1, 2, .inl (F 40))), ((ad 41), .inl (G.2.2 1, 20, .inl (F 41))), ((ad 42), .inl (G.2.2 3, 20, .inl (F 42))), ((ad 43), .inl (G.2.2 3, 20, .inl (F 43)))])) := List.Perm.refl _
      refine k_i C h hp (r_runS C h hp (As := [.int b, .int 0, .int 5]) (rest := []) (m_isIn l G b 0 5) (va_cwS 3 C.1.1.2.2.2.2 gX10_log_X10_isIn rfl rfl rfl (by decide +kernel) ⟨Nat.le_of_ble_eq_true rfl, Nat.le_of_ble_eq_true rfl⟩) rfl hl.1 (Nat.le_of_ble_eq_true rfl) dX10_log_26 ⟨Nat.le_of_ble_eq_true rfl, Nat.le_of_ble_eq_true rfl⟩) (fun r_4 u_5 H locs hw_6 h => ?_)
      have h : gS G A s (mW G ad (upd I 0 0) F rw gd gl) H locs := h
      refine W.widen (k := 0) (n := 0) (Nat.le_of_ble_eq_true rfl) (Nat.le_of_ble_eq_true rfl) ?_
      subst hw_6
      refine lv_if_eq (tgt := 53) hx hb dX10_log_29 (by decide) (fun c_29 => ?_) (fun c_29 => ?_)
      · refine lv_iconst (v := -1) hx hb dX10_log_53 (by decide) ?_
        exact r_iret C h hr hlk (Nat.zero_le _) (Nat.zero_le _) () (by simp only [mLog, if_neg c_11, if_neg c_20, if_pos c_29]) (by simp only [mLog, if_neg c_11, if_neg c_20, if_pos c_29]) dX10_log_54
      · refine lv_iload_n hx hb dX10_log_32 rfl (lv_at hl 3 rfl) ?_
        refine lv_iconst (v := 1) hx hb dX10_log_33 (by decide) ?_
        refine lv_bipush (v := 99) hx hb dX10_log_34 (by decide) ?_
        have hp : List.Perm (mW G ad (upd I 0 0) F rw gd gl : va_W) ([] ++ ([((ad 0), .inr (10, [.int 0, .ref (ad 1), .ref (ad 2), .ref (ad 3), .ref (ad 4), .ref (ad 5), .ref (ad 6), .ref (ad 7), .ref (ad 8), .ref (ad 9), .ref (ad 10), .ref (ad 11), .ref (ad 12), .ref (ad 13), .ref (ad 14), .ref (ad 15), .ref (ad 16), .ref (ad 17), .ref (ad 18), .ref (ad 19), .ref (ad 20), .ref (ad 21), .ref (ad 22), .int (I 23), .int (I 24), .int (I 25), .int (I 26), .int (I 27), .int (I 28), .int (I 29), .ref rw, .int (I 31), .int (I 32), .int (I 33), .int (I 34), .int (I 35), .long gd, .long gl, .ref (ad 38), .ref (ad 39), .ref (ad 40), .ref (ad 41), .ref (ad 42), .ref (ad 43), .int (I 44), .int (I 45), .int (I 46), .int (I 47), .int (I 48), .int (I 49)])), ((ad 1), .inl (G.2.2 0, 120, .inl (F 1))), ((ad 2), .inl (G.2.2 0, 2400, .inl (F 2))), ((ad 3), .inl (G.2.2 1, 20, .inl (F 3))), ((ad 4), .inl (G.2.2 1, 20, .inl (F 4))), ((ad 5), .inl (G.2.2 1, 20, .inl (F 5))), ((ad 6), .inl (G.2.2 1, 60, .inl (F 6))), ((ad 7), .inl (G.2.2 1, 60, .inl (F 7))), ((ad 8), .inl (G.2.2 1, 60, .inl (F 8))), ((ad 9), .inl (G.2.2 1, 60, .inl (F 9))), ((ad 10), .inl (G.2.2 1, 100, .inl (F 10))), ((ad 11), .inl (G.2.2 1, 100, .inl (F 11))), ((ad 12), .inl (G.2.2 1, 100, .inl (F 12))), ((ad 13), .inl (G.2.2 1, 100, .inl (F 13))), ((ad 14), .inl (G.2.2 1, 100, .inl (F 14))), ((ad 15), .inl (G.2.2 1, 100, .inl (F 15))), ((ad 16), .inl (G.2.2 1, 100, .inl (F 16))), ((ad 17), .inl (G.2.2 1, 100, .inl (F 17))), ((ad 18), .inl (G.2.2 1, 100, .inl (F 18))), ((ad 19), .inl (G.2.2 1, 6, .inl (F 19))), ((ad 20), .inl (G.2.2 1, 20000, .inl (F 20))), ((ad 21), .inl (G.2.2 1, 20000, .inl (F 21))), ((ad 22), .inl (G.2.2 1, 20000, .inl (F 22))), ((ad 38), .inl (G.2.2 1, 40, .inl (F 38))), ((ad 39), .inl (G.2.2 1, 40, .inl (F 39))), ((ad 40), .inl (G.2.2 1, 2, .inl (F 40))), ((ad 41), .inl (G.2.2 1, 20, .inl (F 41))), ((ad 42), .inl (G.2.2 3, 20, .inl (F 42))), ((ad 43), .inl (G.2.2 3, 20, .inl (F 43)))])) := List.Perm.refl _
        refine k_i C h hp (r_runS C h hp (As := [.int c9, .int 1, .int 99]) (rest := []) (m_isIn l G c9 1 99) (va_cwS 3 C.1.1.2.2.2.2 gX10_log_X10_isIn rfl rfl rfl (by decide +kernel) ⟨Nat.le_of_ble_eq_true rfl, Nat.le_of_ble_eq_true rfl⟩) rfl hl.1 (Nat.le_of_ble_eq_true rfl) dX10_log_36 ⟨Nat.le_of_ble_eq_true rfl, Nat.le_of_ble_eq_true rfl⟩) (fun r_7 u_8 H locs hw_9 h => ?_)
        have h : gS G A s (mW G ad (upd I 0 0) F rw gd gl) H locs := h
        refine W.widen (k := 0) (n := 0) (Nat.le_of_ble_eq_true rfl) (Nat.le_of_ble_eq_true rfl) ?_
        subst hw_9
        refine lv_if_eq (tgt := 53) hx hb dX10_log_39 (by decide) (fun c_39 => ?_) (fun c_39 => ?_)
        · refine lv_iconst (v := -1) hx hb dX10_log_53 (by decide) ?_
          exact r_iret C h hr hlk (Nat.zero_le _) (Nat.zero_le _) () (by simp only [mLog, if_neg c_11, if_neg c_20, if_neg c_29, if_pos c_39]) (by simp only [mLog, if_neg c_11, if_neg c_20, if_neg c_29, if_pos c_39]) dX10_log_54
        · refine lv_iload hx hb dX10_log_42 (lv_at hl 4 rfl) ?_
          refine lv_iconst (v := 1) hx hb dX10_log_44 (by decide) ?_
          refine lv_bipush (v := 60) hx hb dX10_log_45 (by decide) ?_
          have hp : List.Perm (mW G ad (upd I 0 0) F rw gd gl : va_W) ([] ++ ([((ad 0), .inr (10, [.int 0, .ref (ad 1), .ref (ad 2), .ref (ad 3), .ref (ad 4), .ref (ad 5), .ref (ad 6), .ref (ad 7), .ref (ad 8), .ref (ad 9), .ref (ad 10), .ref (ad 11), .ref (ad 12), .ref (ad 13), .ref (ad 14), .ref (ad 15), .ref (ad 16), .ref (ad 17), .ref (ad 18), .ref (ad 19), .ref (ad 20), .ref (ad 21), .ref (ad 22), .int (I 23), .int (I 24), .int (I 25), .int (I 26), .int (I 27), .int (I 28), .int (I 29), .ref rw, .int (I 31), .int (I 32), .int (I 33), .int (I 34), .int (I 35), .long gd, .long gl, .ref (ad 38), .ref (ad 39), .ref (ad 40), .ref (ad 41), .ref (ad 42), .ref (ad 43), .int (I 44), .int (I 45), .int (I 46), .int (I 47), .int (I 48), .int (I 49)])), ((ad 1), .inl (G.2.2 0, 120, .inl (F 1))), ((ad 2), .inl (G.2.2 0, 2400, .inl (F 2))), ((ad 3), .inl (G.2.2 1, 20, .inl (F 3))), ((ad 4), .inl (G.2.2 1, 20, .inl (F 4))), ((ad 5), .inl (G.2.2 1, 20, .inl (F 5))), ((ad 6), .inl (G.2.2 1, 60, .inl (F 6))), ((ad 7), .inl (G.2.2 1, 60, .inl (F 7))), ((ad 8), .inl (G.2.2 1, 60, .inl (F 8))), ((ad 9), .inl (G.2.2 1, 60, .inl (F 9))), ((ad 10), .inl (G.2.2 1, 100, .inl (F 10))), ((ad 11), .inl (G.2.2 1, 100, .inl (F 11))), ((ad 12), .inl (G.2.2 1, 100, .inl (F 12))), ((ad 13), .inl (G.2.2 1, 100, .inl (F 13))), ((ad 14), .inl (G.2.2 1, 100, .inl (F 14))), ((ad 15), .inl (G.2.2 1, 100, .inl (F 15))), ((ad 16), .inl (G.2.2 1, 100, .inl (F 16))), ((ad 17), .inl (G.2.2 1, 100, .inl (F 17))), ((ad 18), .inl (G.2.2 1, 100, .inl (F 18))), ((ad 19), .inl (G.2.2 1, 6, .inl (F 19))), ((ad 20), .inl (G.2.2 1, 20000, .inl (F 20))), ((ad 21), .inl (G.2.2 1, 20000, .inl (F 21))), ((ad 22), .inl (G.2.2 1, 20000, .inl (F 22))), ((ad 38), .inl (G.2.2 1, 40, .inl (F 38))), ((ad 39), .inl (G.2.2 1, 40, .inl (F 39))), ((ad 40), .inl (G.2.2 1, 2, .inl (F 40))), ((ad 41), .inl (G.2.2 1, 20, .inl (F 41))), ((ad 42), .inl (G.2.2 3, 20, .inl (F 42))), ((ad 43), .inl (G.2.2 3, 20, .inl (F 43)))])) := List.Perm.refl _
          refine k_i C h hp (r_runS C h hp (As := [.int d, .int 1, .int 60]) (rest := []) (m_isIn l G d 1 60) (va_cwS 3 C.1.1.2.2.2.2 gX10_log_X10_isIn rfl rfl rfl (by decide +kernel) ⟨Nat.le_of_ble_eq_true rfl, Nat.le_of_ble_eq_true rfl⟩) rfl hl.1 (Nat.le_of_ble_eq_true rfl) dX10_log_47 ⟨Nat.le_of_ble_eq_true rfl, Nat.le_of_ble_eq_true rfl⟩) (fun r_10 u_11 H locs hw_12 h => ?_)
          have h : gS G A s (mW G ad (upd I 0 0) F rw gd gl) H locs := h
          refine W.widen (k := 0) (n := 0) (Nat.le_of_ble_eq_true rfl) (Nat.le_of_ble_eq_true rfl) ?_
          subst hw_12
          refine lv_if_ne (tgt := 55) hx hb dX10_log_50 (by decide) (fun c_50 => ?_) (fun c_50 => ?_)
          · refine lv_aload_n hx hb dX10_log_55 rfl (lv_at hl 0 rfl) ?_
            refine r_get C h 0 rfl (Cn := RX10) (T := TX10) (N := 50) rfl hinX10 10 (by decide) (index := 38) (ref := "ScaleHouseModel") wd2 rfl (v := .ref (ad 10)) rfl dX10_log_56 ?_
            refine lv_aload_n hx hb dX10_log_59 rfl (lv_at hl 0 rfl) ?_
            refine r_get C h 0 rfl (Cn := RX10) (T := TX10) (N := 50) rfl hinX10 27 (by decide) (index := 219) (ref := "ScaleHouseModel") wd1 rfl (v := .int (I 27)) rfl dX10_log_60 ?_
            refine lv_iload_n hx hb dX10_log_63 rfl (lv_at hl 1 rfl) ?_
            refine r_iast C h 10 rfl (i := (I 27)) (lim_in (n := 100) hlg (by decide) (by assumption)) dX10_log_64 (fun H locs h => ?_)
            have h : gS G A s (mW G ad (upd I 0 0) (va_up F 10 (upd (F 10) (I 27).toNatClampNeg a)) rw gd gl) H locs := h
            refine lv_aload_n hx hb dX10_log_65 rfl (lv_at hl 0 rfl) ?_
            refine r_get C h 0 rfl (Cn := RX10) (T := TX10) (N := 50) rfl hinX10 11 (by decide) (index := 41) (ref := "ScaleHouseModel") wd3 rfl (v := .ref (ad 11)) rfl dX10_log_66 ?_
            refine lv_aload_n hx hb dX10_log_69 rfl (lv_at hl 0 rfl) ?_
            refine r_get C h 0 rfl (Cn := RX10) (T := TX10) (N := 50) rfl hinX10 27 (by decide) (index := 219) (ref := "ScaleHouseModel") wd1 rfl (v := .int (I 27)) rfl dX10_log_70 ?_
            refine lv_iload_n hx hb dX10_log_73 rfl (lv_at hl 2 rfl) ?_
            refine r_iast C h 11 rfl (i := (I 27)) (lim_in (n := 100) hlg (by decide) (by assumption)) dX10_log_74 (fun H locs h => ?_)
            have h : gS G A s (mW G ad (upd I 0 0) (va_up (va_up F 10 (upd (F 10) (I 27).toNatClampNeg a)) 11 (upd (F 11) (I 27).toNatClampNeg b)) rw gd gl) H locs := h
            refine lv_aload_n hx hb dX10_log_75 rfl (lv_at hl 0 rfl) ?_
            refine r_get C h 0 rfl (Cn := RX10) (T := TX10) (N := 50) rfl hinX10 12 (by decide) (index := 44) (ref := "ScaleHouseModel") wd4 rfl (v := .ref (ad 12)) rfl dX10_log_76 ?_
            refine lv_aload_n hx hb dX10_log_79 rfl (lv_at hl 0 rfl) ?_
            refine r_get C h 0 rfl (Cn := RX10) (T := TX10) (N := 50) rfl hinX10 27 (by decide) (index := 219) (ref := "ScaleHouseModel") wd1 rfl (v := .int (I 27)) rfl dX10_log_80 ?_
            refine lv_iload_n hx hb dX10_log_83 rfl (lv_at hl 3 rfl) ?_
            refine r_iast C h 12 rfl (i := (I 27)) (lim_in (n := 100) hlg (by decide) (by assumption)) dX10_log_84 (fun H locs h => ?_)
            have h : gS G A s (mW G ad (upd I 0 0) (va_up (va_up (va_up F 10 (upd (F 10) (I 27).toNatClampNeg a)) 11 (upd (F 11) (I 27).toNatClampNeg b)) 12 (upd (F 12) (I 27).toNatClampNeg c9)) rw gd gl) H locs := h
            refine lv_aload_n hx hb dX10_log_85 rfl (lv_at hl 0 rfl) ?_
            refine r_get C h 0 rfl (Cn := RX10) (T := TX10) (N := 50) rfl hinX10 13 (by decide) (index := 47) (ref := "ScaleHouseModel") wd5 rfl (v := .ref (ad 13)) rfl dX10_log_86 ?_
            refine lv_aload_n hx hb dX10_log_89 rfl (lv_at hl 0 rfl) ?_
            refine r_get C h 0 rfl (Cn := RX10) (T := TX10) (N := 50) rfl hinX10 27 (by decide) (index := 219) (ref := "ScaleHouseModel") wd1 rfl (v := .int (I 27)) rfl dX10_log_90 ?_
            refine lv_iload hx hb dX10_log_93 (lv_at hl 4 rfl) ?_
            refine r_iast C h 13 rfl (i := (I 27)) (lim_in (n := 100) hlg (by decide) (by assumption)) dX10_log_95 (fun H locs h => ?_)
            have h : gS G A s (mW G ad (upd I 0 0) (va_up (va_up (va_up (va_up F 10 (upd (F 10) (I 27).toNatClampNeg a)) 11 (upd (F 11) (I 27).toNatClampNeg b)) 12 (upd (F 12) (I 27).toNatClampNeg c9)) 13 (upd (F 13) (I 27).toNatClampNeg d)) rw gd gl) H locs := h
            refine lv_aload_n hx hb dX10_log_96 rfl (lv_at hl 0 rfl) ?_
            refine r_get C h 0 rfl (Cn := RX10) (T := TX10) (N := 50) rfl hinX10 14 (by decide) (index := 50) (ref := "ScaleHouseModel") wd6 rfl (v := .ref (ad 14)) rfl dX10_log_97 ?_
            refine lv_aload_n hx hb dX10_log_100 rfl (lv_at hl 0 rfl) ?_
            refine r_get C h 0 rfl (Cn := RX10) (T := TX10) (N := 50) rfl hinX10 27 (by decide) (index := 219) (ref := "ScaleHouseModel") wd1 rfl (v := .int (I 27)) rfl dX10_log_101 ?_
            refine lv_aload_n hx hb dX10_log_104 rfl (lv_at hl 0 rfl) ?_
            refine r_get C h 0 rfl (Cn := RX10) (T := TX10) (N := 50) rfl hinX10 24 (by decide) (index := 202) (ref := "ScaleHouseModel") wd7 rfl (v := .int (I 24)) rfl dX10_log_105 ?_
            refine r_iast C h 14 rfl (i := (I 27)) (lim_in (n := 100) hlg (by decide) (by assumption)) dX10_log_108 (fun H locs h => ?_)
            have h : gS G A s (mW G ad (upd I 0 0) (va_up (va_up (va_up (va_up (va_up F 10 (upd (F 10) (I 27).toNatClampNeg a)) 11 (upd (F 11) (I 27).toNatClampNeg b)) 12 (upd (F 12) (I 27).toNatClampNeg c9)) 13 (upd (F 13) (I 27).toNatClampNeg d)) 14 (upd (F 14) (I 27).toNatClampNeg (I 24))) rw gd gl) H locs := h
            refine lv_aload_n hx hb dX10_log_109 rfl (lv_at hl 0 rfl) ?_
            refine lv_dup hx hb dX10_log_110 rfl ?_
            refine r_get C h 0 rfl (Cn := RX10) (T := TX10) (N := 50) rfl hinX10 27 (by decide) (index := 219) (ref := "ScaleHouseModel") wd1 rfl (v := .int (I 27)) rfl dX10_log_111 ?_
            refine lv_iconst (v := 1) hx hb dX10_log_114 (by decide) ?_
            refine lv_iadd hx hb dX10_log_115 ?_
            refine r_put C h 0 rfl (Cn := RX10) (T := TX10) (N := 50) rfl hinX10 tyX10 tyX10_ok nmX10 27 (by decide) (index := 219) (ref := "ScaleHouseModel") wd1 rfl rfl (v := .int ((I 27) + 1)) rfl rfl (show 27 < 50 by decide) dX10_log_116 (fun H locs h => ?_)
            have h : gS G A s (mW G ad (upd (upd I 0 0) 27 ((I 27) + 1)) (va_up (va_up (va_up (va_up (va_up F 10 (upd (F 10) (I 27).toNatClampNeg a)) 11 (upd (F 11) (I 27).toNatClampNeg b)) 12 (upd (F 12) (I 27).toNatClampNeg c9)) 13 (upd (F 13) (I 27).toNatClampNeg d)) 14 (upd (F 14) (I 27).toNatClampNeg (I 24))) rw gd gl) H locs := h
            refine lv_aload_n hx hb dX10_log_119 rfl (lv_at hl 0 rfl) ?_
            refine r_get C h 0 rfl (Cn := RX10) (T := TX10) (N := 50) rfl hinX10 27 (by decide) (index := 219) (ref := "ScaleHouseModel") wd1 rfl (v := .int ((I 27) + 1)) rfl dX10_log_120 ?_
            refine lv_iconst (v := 1) hx hb dX10_log_123 (by decide) ?_
            refine lv_isub hx hb dX10_log_124 ?_
            exact r_iret C h hr hlk (Nat.zero_le _) (Nat.zero_le _) () (by simp only [mLog, if_neg c_11, if_neg c_20, if_neg c_29, if_neg c_39, if_neg c_50]) (by simp only [mLog, if_neg c_11, if_neg c_20, if_neg c_29, if_neg c_39, if_neg c_50]) dX10_log_125
          · refine lv_iconst (v := -1) hx hb dX10_log_53 (by decide) ?_
            exact r_iret C h hr hlk (Nat.zero_le _) (Nat.zero_le _) () (by simp only [mLog, if_neg c_11, if_neg c_20, if_neg c_29, if_neg c_39, if_pos c_50]) (by simp only [mLog, if_neg c_11, if_neg c_20, if_neg c_29, if_neg c_39, if_pos c_50]) dX10_log_54

def mError (I : Nat → Int32) (F : Nat → Nat → Int32) (a b c9 : Int32) : Int32 × (Nat → Int32) × (Nat → Nat → Int32) :=
  if (I 26) = 60 then (0, (upd I 0 0), F)
  else if (mIn a 0 5) = 0 then (0, (upd I 0 0), F)
    else if (mIn b (-200) 200) = 0 then (0, (upd I 0 0), F)
      else if (mLater c9) = 0 then (0, (upd I 0 0), F)
        else (1, (upd (upd I 0 0) 26 ((I 26) + 1)), (va_up (va_up (va_up (va_up F 6 (upd (F 6) (I 26).toNatClampNeg a)) 7 (upd (F 7) (I 26).toNatClampNeg b)) 8 (upd (F 8) (I 26).toNatClampNeg c9)) 9 (upd (F 9) (I 26).toNatClampNeg (I 24))))
set_option maxHeartbeats 4000000 in
set_option maxRecDepth 100000 in
theorem m_error (l : Launch) (G : gG) (ad : Nat → Nat) (I : Nat → Int32) (F : Nat → Nat → Int32) (rw : Nat) (gd gl : Int64) (a b c9 : Int32) (her : lim (I 26) 60) : cM l yX10_error wsX10_error 2 50 (0) (0) G [.ref (ad 0), .int a, .int b, .int c9] (mW G ad I F rw gd gl) (qI G (S := Unit) (fun r _ => r = (mError I F a b c9).1) (fun _ => mW G ad ((mError I F a b c9).2.1) ((mError I F a b c9).2.2) rw gd gl)) := by
  refine o_M (cc := cX10_error) (maxL := 4) (ret := (some .boolean)) (own := RX10) (by decide +kernel) rfl rfl (Nat.le_of_ble_eq_true rfl) ?_
  intro p e s m below meth c A ls H locs hA C h hr hlk hnm hl
  have hx := C.1.1.1
  have hb := C.1.1.2.1
  have hl : lv_has ls 4 [(0, .ref (ad 0)), (1, .int a), (2, .int b), (3, .int c9)] := hl
  have wd0 : Cond.fieldLink RX10 106 "ScaleHouseModel" "thrown" "I" ∈ wsX10_error := by decide +kernel
  have hinX10 : ∀ w ∈ wsX100, w ∈ wsX10_error := fun _ h => List.mem_cons_of_mem _ (List.mem_append_right _ h)
  have wd1 : Cond.fieldLink RX10 216 "ScaleHouseModel" "errors" "I" ∈ wsX10_error := by decide +kernel
  have wd2 : Cond.fieldLink RX10 26 "ScaleHouseModel" "errorStick" "[I" ∈ wsX10_error := by decide +kernel
  have wd3 : Cond.fieldLink RX10 29 "ScaleHouseModel" "errorParts" "[I" ∈ wsX10_error := by decide +kernel
  have wd4 : Cond.fieldLink RX10 32 "ScaleHouseModel" "errorFrom" "[I" ∈ wsX10_error := by decide +kernel
  have wd5 : Cond.fieldLink RX10 35 "ScaleHouseModel" "errorTold" "[I" ∈ wsX10_error := by decide +kernel
  have wd6 : Cond.fieldLink RX10 202 "ScaleHouseModel" "now" "I" ∈ wsX10_error := by decide +kernel
  refine lv_aload_n hx hb dX10_error_0 rfl (lv_at hl 0 rfl) ?_
  refine lv_iconst (v := 0) hx hb dX10_error_1 (by decide) ?_
  refine r_put C h 0 rfl (Cn := RX10) (T := TX10) (N := 50) rfl hinX10 tyX10 tyX10_ok nmX10 0 (by decide) (index := 106) (ref := "ScaleHouseModel") wd0 rfl rfl (v := .int 0) rfl rfl (show 0 < 50 by decide) dX10_error_2 (fun H locs h => ?_)
  have h : gS G A s (mW G ad (upd I 0 0) F rw gd gl) H locs := h
  refine lv_aload_n hx hb dX10_error_5 rfl (lv_at hl 0 rfl) ?_
  refine r_get C h 0 rfl (Cn := RX10) (T := TX10) (N := 50) rfl hinX10 26 (by decide) (index := 216) (ref := "ScaleHouseModel") wd1 rfl (v := .int (I 26)) rfl dX10_error_6 ?_
  refine lv_bipush (v := 60) hx hb dX10_error_9 (by decide) ?_
  refine lv_icmp_eq (tgt := 43) hx hb dX10_error_11 (by decide) (fun c_11 => ?_) (fun c_11 => ?_)
  · refine lv_iconst (v := 0) hx hb dX10_error_43 (by decide) ?_
    exact r_zret C h hr hlk (Nat.zero_le _) (Nat.zero_le _) (Or.inl rfl) () (by simp only [mError, if_pos c_11]) (by simp only [mError, if_pos c_11]) dX10_error_44
  · refine lv_iload_n hx hb dX10_error_14 rfl (lv_at hl 1 rfl) ?_
    refine lv_iconst (v := 0) hx hb dX10_error_15 (by decide) ?_
    refine lv_iconst (v := 5) hx hb dX10_error_16 (by decide) ?_
    have hp : List.Perm (mW G ad (upd I 0 0) F rw gd gl : va_W) ([] ++ ([((ad 0), .inr (10, [.int 0, .ref (ad 1), .ref (ad 2), .ref (ad 3), .ref (ad 4), .ref (ad 5), .ref (ad 6), .ref (ad 7), .ref (ad 8), .ref (ad 9), .ref (ad 10), .ref (ad 11), .ref (ad 12), .ref (ad 13), .ref (ad 14), .ref (ad 15), .ref (ad 16), .ref (ad 17), .ref (ad 18), .ref (ad 19), .ref (ad 20), .ref (ad 21), .ref (ad 22), .int (I 23), .int (I 24), .int (I 25), .int (I 26), .int (I 27), .int (I 28), .int (I 29), .ref rw, .int (I 31), .int (I 32), .int (I 33), .int (I 34), .int (I 35), .long gd, .long gl, .ref (ad 38), .ref (ad 39), .ref (ad 40), .ref (ad 41), .ref (ad 42), .ref (ad 43), .int (I 44), .int (I 45), .int (I 46), .int (I 47), .int (I 48), .int (I 49)])), ((ad 1), .inl (G.2.2 0, 120, .inl (F 1))), ((ad 2), .inl (G.2.2 0, 2400, .inl (F 2))), ((ad 3), .inl (G.2.2 1, 20, .inl (F 3))), ((ad 4), .inl (G.2.2 1, 20, .inl (F 4))), ((ad 5), .inl (G.2.2 1, 20, .inl (F 5))), ((ad 6), .inl (G.2.2 1, 60, .inl (F 6))), ((ad 7), .inl (G.2.2 1, 60, .inl (F 7))), ((ad 8), .inl (G.2.2 1, 60, .inl (F 8))), ((ad 9), .inl (G.2.2 1, 60, .inl (F 9))), ((ad 10), .inl (G.2.2 1, 100, .inl (F 10))), ((ad 11), .inl (G.2.2 1, 100, .inl (F 11))), ((ad 12), .inl (G.2.2 1, 100, .inl (F 12))), ((ad 13), .inl (G.2.2 1, 100, .inl (F 13))), ((ad 14), .inl (G.2.2 1, 100, .inl (F 14))), ((ad 15), .inl (G.2.2 1, 100, .inl (F 15))), ((ad 16), .inl (G.2.2 1, 100, .inl (F 16))), ((ad 17), .inl (G.2.2 1, 100, .inl (F 17))), ((ad 18), .inl (G.2.2 1, 100, .inl (F 18))), ((ad 19), .inl (G.2.2 1, 6, .inl (F 19))), ((ad 20), .inl (G.2.2 1, 20000, .inl (F 20))), ((ad 21), .inl (G.2.2 1, 20000, .inl (F 21))), ((ad 22), .inl (G.2.2 1, 20000, .inl (F 22))), ((ad 38), .inl (G.2.2 1, 40, .inl (F 38))), ((ad 39), .inl (G.2.2 1, 40, .inl (F 39))), ((ad 40), .inl (G.2.2 1, 2, .inl (F 40))), ((ad 41), .inl (G.2.2 1, 20, .inl (F 41))), ((ad 42), .inl (G.2.2 3, 20, .inl (F 42))), ((ad 43), .inl (G.2.2 3, 20, .inl (F 43)))])) := List.Perm.refl _
    refine k_i C h hp (r_runS C h hp (As := [.int a, .int 0, .int 5]) (rest := []) (m_isIn l G a 0 5) (va_cwS 3 C.1.1.2.2.2.2 gX10_error_X10_isIn rfl rfl rfl (by decide +kernel) ⟨Nat.le_of_ble_eq_true rfl, Nat.le_of_ble_eq_true rfl⟩) rfl hl.1 (Nat.le_of_ble_eq_true rfl) dX10_error_17 ⟨Nat.le_of_ble_eq_true rfl, Nat.le_of_ble_eq_true rfl⟩) (fun r_1 u_2 H locs hw_3 h => ?_)
    have h : gS G A s (mW G ad (upd I 0 0) F rw gd gl) H locs := h
    refine W.widen (k := 0) (n := 0) (Nat.le_of_ble_eq_true rfl) (Nat.le_of_ble_eq_true rfl) ?_
    subst hw_3
    refine lv_if_eq (tgt := 43) hx hb dX10_error_20 (by decide) (fun c_20 => ?_) (fun c_20 => ?_)
    · refine lv_iconst (v := 0) hx hb dX10_error_43 (by decide) ?_
      exact r_zret C h hr hlk (Nat.zero_le _) (Nat.zero_le _) (Or.inl rfl) () (by simp only [mError, if_neg c_11, if_pos c_20]) (by simp only [mError, if_neg c_11, if_pos c_20]) dX10_error_44
    · refine lv_iload_n hx hb dX10_error_23 rfl (lv_at hl 2 rfl) ?_
      refine lv_sipush (v := -200) hx hb dX10_error_24 (by decide) ?_
      refine lv_sipush (v := 200) hx hb dX10_error_27 (by decide) ?_
      have hp : List.Perm (mW G ad (upd I 0 0) F rw gd gl : va_W) ([] ++ ([((ad 0), .inr (10, [.int 0, .ref (ad 1), .ref (ad 2), .ref (ad 3), .ref (ad 4), .ref (ad 5), .ref (ad 6), .ref (ad 7), .ref (ad 8), .ref (ad 9), .ref (ad 10), .ref (ad 11), .ref (ad 12), .ref (ad 13), .ref (ad 14), .ref (ad 15), .ref (ad 16), .ref (ad 17), .ref (ad 18), .ref (ad 19), .ref (ad 20), .ref (ad 21), .ref (ad 22), .int (I 23), .int (I 24), .int (I 25), .int (I 26), .int (I 27), .int (I 28), .int (I 29), .ref rw, .int (I 31), .int (I 32), .int (I 33), .int (I 34), .int (I 35), .long gd, .long gl, .ref (ad 38), .ref (ad 39), .ref (ad 40), .ref (ad 41), .ref (ad 42), .ref (ad 43), .int (I 44), .int (I 45), .int (I 46), .int (I 47), .int (I 48), .int (I 49)])), ((ad 1), .inl (G.2.2 0, 120, .inl (F 1))), ((ad 2), .inl (G.2.2 0, 2400, .inl (F 2))), ((ad 3), .inl (G.2.2 1, 20, .inl (F 3))), ((ad 4), .inl (G.2.2 1, 20, .inl (F 4))), ((ad 5), .inl (G.2.2 1, 20, .inl (F 5))), ((ad 6), .inl (G.2.2 1, 60, .inl (F 6))), ((ad 7), .inl (G.2.2 1, 60, .inl (F 7))), ((ad 8), .inl (G.2.2 1, 60, .inl (F 8))), ((ad 9), .inl (G.2.2 1, 60, .inl (F 9))), ((ad 10), .inl (G.2.2 1, 100, .inl (F 10))), ((ad 11), .inl (G.2.2 1, 100, .inl (F 11))), ((ad 12), .inl (G.2.2 1, 100, .inl (F 12))), ((ad 13), .inl (G.2.2 1, 100, .inl (F 13))), ((ad 14), .inl (G.2.2 1, 100, .inl (F 14))), ((ad 15), .inl (G.2.2 1, 100, .inl (F 15))), ((ad 16), .inl (G.2.2 1, 100, .inl (F 16))), ((ad 17), .inl (G.2.2 1, 100, .inl (F 17))), ((ad 18), .inl (G.2.2 1, 100, .inl (F 18))), ((ad 19), .inl (G.2.2 1, 6, .inl (F 19))), ((ad 20), .inl (G.2.2 1, 20000, .inl (F 20))), ((ad 21), .inl (G.2.2 1, 20000, .inl (F 21))), ((ad 22), .inl (G.2.2 1, 20000, .inl (F 22))), ((ad 38), .inl (G.2.2 1, 40, .inl (F 38))), ((ad 39), .inl (G.2.2 1, 40, .inl (F 39))), ((ad 40), .inl (G.2.2 1, 2, .inl (F 40))), ((ad 41), .inl (G.2.2 1, 20, .inl (F 41))), ((ad 42), .inl (G.2.2 3, 20, .inl (F 42))), ((ad 43), .inl (G.2.2 3, 20, .inl (F 43)))])) := List.Perm.refl _
      refine k_i C h hp (r_runS C h hp (As := [.int b, .int (-200), .int 200]) (rest := []) (m_isIn l G b (-200) 200) (va_cwS 3 C.1.1.2.2.2.2 gX10_error_X10_isIn rfl rfl rfl (by decide +kernel) ⟨Nat.le_of_ble_eq_true rfl, Nat.le_of_ble_eq_true rfl⟩) rfl hl.1 (Nat.le_of_ble_eq_true rfl) dX10_error_30 ⟨Nat.le_of_ble_eq_true rfl, Nat.le_of_ble_eq_true rfl⟩) (fun r_4 u_5 H locs hw_6 h => ?_)
      have h : gS G A s (mW G ad (upd I 0 0) F rw gd gl) H locs := h
      refine W.widen (k := 0) (n := 0) (Nat.le_of_ble_eq_true rfl) (Nat.le_of_ble_eq_true rfl) ?_
      subst hw_6
      refine lv_if_eq (tgt := 43) hx hb dX10_error_33 (by decide) (fun c_33 => ?_) (fun c_33 => ?_)
      · refine lv_iconst (v := 0) hx hb dX10_error_43 (by decide) ?_
        exact r_zret C h hr hlk (Nat.zero_le _) (Nat.zero_le _) (Or.inl rfl) () (by simp only [mError, if_neg c_11, if_neg c_20, if_pos c_33]) (by simp only [mError, if_neg c_11, if_neg c_20, if_pos c_33]) dX10_error_44
      · refine lv_iload_n hx hb dX10_error_36 rfl (lv_at hl 3 rfl) ?_
        have hp : List.Perm (mW G ad (upd I 0 0) F rw gd gl : va_W) ([] ++ ([((ad 0), .inr (10, [.int 0, .ref (ad 1), .ref (ad 2), .ref (ad 3), .ref (ad 4), .ref (ad 5), .ref (ad 6), .ref (ad 7), .ref (ad 8), .ref (ad 9), .ref (ad 10), .ref (ad 11), .ref (ad 12), .ref (ad 13), .ref (ad 14), .ref (ad 15), .ref (ad 16), .ref (ad 17), .ref (ad 18), .ref (ad 19), .ref (ad 20), .ref (ad 21), .ref (ad 22), .int (I 23), .int (I 24), .int (I 25), .int (I 26), .int (I 27), .int (I 28), .int (I 29), .ref rw, .int (I 31), .int (I 32), .int (I 33), .int (I 34), .int (I 35), .long gd, .long gl, .ref (ad 38), .ref (ad 39), .ref (ad 40), .ref (ad 41), .ref (ad 42), .ref (ad 43), .int (I 44), .int (I 45), .int (I 46), .int (I 47), .int (I 48), .int (I 49)])), ((ad 1), .inl (G.2.2 0, 120, .inl (F 1))), ((ad 2), .inl (G.2.2 0, 2400, .inl (F 2))), ((ad 3), .inl (G.2.2 1, 20, .inl (F 3))), ((ad 4), .inl (G.2.2 1, 20, .inl (F 4))), ((ad 5), .inl (G.2.2 1, 20, .inl (F 5))), ((ad 6), .inl (G.2.2 1, 60, .inl (F 6))), ((ad 7), .inl (G.2.2 1, 60, .inl (F 7))), ((ad 8), .inl (G.2.2 1, 60, .inl (F 8))), ((ad 9), .inl (G.2.2 1, 60, .inl (F 9))), ((ad 10), .inl (G.2.2 1, 100, .inl (F 10))), ((ad 11), .inl (G.2.2 1, 100, .inl (F 11))), ((ad 12), .inl (G.2.2 1, 100, .inl (F 12))), ((ad 13), .inl (G.2.2 1, 100, .inl (F 13))), ((ad 14), .inl (G.2.2 1, 100, .inl (F 14))), ((ad 15), .inl (G.2.2 1, 100, .inl (F 15))), ((ad 16), .inl (G.2.2 1, 100, .inl (F 16))), ((ad 17), .inl (G.2.2 1, 100, .inl (F 17))), ((ad 18), .inl (G.2.2 1, 100, .inl (F 18))), ((ad 19), .inl (G.2.2 1, 6, .inl (F 19))), ((ad 20), .inl (G.2.2 1, 20000, .inl (F 20))), ((ad 21), .inl (G.2.2 1, 20000, .inl (F 21))), ((ad 22), .inl (G.2.2 1, 20000, .inl (F 22))), ((ad 38), .inl (G.2.2 1, 40, .inl (F 38))), ((ad 39), .inl (G.2.2 1, 40, .inl (F 39))), ((ad 40), .inl (G.2.2 1, 2, .inl (F 40))), ((ad 41), .inl (G.2.2 1, 20, .inl (F 41))), ((ad 42), .inl (G.2.2 3, 20, .inl (F 42))), ((ad 43), .inl (G.2.2 3, 20, .inl (F 43)))])) := List.Perm.refl _
        refine k_i C h hp (r_runS C h hp (As := [.int c9]) (rest := []) (m_isLaterDay l G c9) (va_cwS 1 C.1.1.2.2.2.2 gX10_error_X10_isLaterDay rfl rfl rfl (by decide +kernel) ⟨Nat.le_of_ble_eq_true rfl, Nat.le_of_ble_eq_true rfl⟩) rfl hl.1 (Nat.le_of_ble_eq_true rfl) dX10_error_37 ⟨Nat.le_of_ble_eq_true rfl, Nat.le_of_ble_eq_true rfl⟩) (fun r_7 u_8 H locs hw_9 h => ?_)
        have h : gS G A s (mW G ad (upd I 0 0) F rw gd gl) H locs := h
        refine W.widen (k := 0) (n := 0) (Nat.le_of_ble_eq_true rfl) (Nat.le_of_ble_eq_true rfl) ?_
        subst hw_9
        refine lv_if_ne (tgt := 45) hx hb dX10_error_40 (by decide) (fun c_40 => ?_) (fun c_40 => ?_)
        · refine lv_aload_n hx hb dX10_error_45 rfl (lv_at hl 0 rfl) ?_
          refine r_get C h 0 rfl (Cn := RX10) (T := TX10) (N := 50) rfl hinX10 6 (by decide) (index := 26) (ref := "ScaleHouseModel") wd2 rfl (v := .ref (ad 6)) rfl dX10_error_46 ?_
          refine lv_aload_n hx hb dX10_error_49 rfl (lv_at hl 0 rfl) ?_
          refine r_get C h 0 rfl (Cn := RX10) (T := TX10) (N := 50) rfl hinX10 26 (by decide) (index := 216) (ref := "ScaleHouseModel") wd1 rfl (v := .int (I 26)) rfl dX10_error_50 ?_
          refine lv_iload_n hx hb dX10_error_53 rfl (lv_at hl 1 rfl) ?_
          refine r_iast C h 6 rfl (i := (I 26)) (lim_in (n := 60) her (by decide) (by assumption)) dX10_error_54 (fun H locs h => ?_)
          have h : gS G A s (mW G ad (upd I 0 0) (va_up F 6 (upd (F 6) (I 26).toNatClampNeg a)) rw gd gl) H locs := h
          refine lv_aload_n hx hb dX10_error_55 rfl (lv_at hl 0 rfl) ?_
          refine r_get C h 0 rfl (Cn := RX10) (T := TX10) (N := 50) rfl hinX10 7 (by decide) (index := 29) (ref := "ScaleHouseModel") wd3 rfl (v := .ref (ad 7)) rfl dX10_error_56 ?_
          refine lv_aload_n hx hb dX10_error_59 rfl (lv_at hl 0 rfl) ?_
          refine r_get C h 0 rfl (Cn := RX10) (T := TX10) (N := 50) rfl hinX10 26 (by decide) (index := 216) (ref := "ScaleHouseModel") wd1 rfl (v := .int (I 26)) rfl dX10_error_60 ?_
          refine lv_iload_n hx hb dX10_error_63 rfl (lv_at hl 2 rfl) ?_
          refine r_iast C h 7 rfl (i := (I 26)) (lim_in (n := 60) her (by decide) (by assumption)) dX10_error_64 (fun H locs h => ?_)
          have h : gS G A s (mW G ad (upd I 0 0) (va_up (va_up F 6 (upd (F 6) (I 26).toNatClampNeg a)) 7 (upd (F 7) (I 26).toNatClampNeg b)) rw gd gl) H locs := h
          refine lv_aload_n hx hb dX10_error_65 rfl (lv_at hl 0 rfl) ?_
          refine r_get C h 0 rfl (Cn := RX10) (T := TX10) (N := 50) rfl hinX10 8 (by decide) (index := 32) (ref := "ScaleHouseModel") wd4 rfl (v := .ref (ad 8)) rfl dX10_error_66 ?_
          refine lv_aload_n hx hb dX10_error_69 rfl (lv_at hl 0 rfl) ?_
          refine r_get C h 0 rfl (Cn := RX10) (T := TX10) (N := 50) rfl hinX10 26 (by decide) (index := 216) (ref := "ScaleHouseModel") wd1 rfl (v := .int (I 26)) rfl dX10_error_70 ?_
          refine lv_iload_n hx hb dX10_error_73 rfl (lv_at hl 3 rfl) ?_
          refine r_iast C h 8 rfl (i := (I 26)) (lim_in (n := 60) her (by decide) (by assumption)) dX10_error_74 (fun H locs h => ?_)
          have h : gS G A s (mW G ad (upd I 0 0) (va_up (va_up (va_up F 6 (upd (F 6) (I 26).toNatClampNeg a)) 7 (upd (F 7) (I 26).toNatClampNeg b)) 8 (upd (F 8) (I 26).toNatClampNeg c9)) rw gd gl) H locs := h
          refine lv_aload_n hx hb dX10_error_75 rfl (lv_at hl 0 rfl) ?_
          refine r_get C h 0 rfl (Cn := RX10) (T := TX10) (N := 50) rfl hinX10 9 (by decide) (index := 35) (ref := "ScaleHouseModel") wd5 rfl (v := .ref (ad 9)) rfl dX10_error_76 ?_
          refine lv_aload_n hx hb dX10_error_79 rfl (lv_at hl 0 rfl) ?_
          refine r_get C h 0 rfl (Cn := RX10) (T := TX10) (N := 50) rfl hinX10 26 (by decide) (index := 216) (ref := "ScaleHouseModel") wd1 rfl (v := .int (I 26)) rfl dX10_error_80 ?_
          refine lv_aload_n hx hb dX10_error_83 rfl (lv_at hl 0 rfl) ?_
          refine r_get C h 0 rfl (Cn := RX10) (T := TX10) (N := 50) rfl hinX10 24 (by decide) (index := 202) (ref := "ScaleHouseModel") wd6 rfl (v := .int (I 24)) rfl dX10_error_84 ?_
          refine r_iast C h 9 rfl (i := (I 26)) (lim_in (n := 60) her (by decide) (by assumption)) dX10_error_87 (fun H locs h => ?_)
          have h : gS G A s (mW G ad (upd I 0 0) (va_up (va_up (va_up (va_up F 6 (upd (F 6) (I 26).toNatClampNeg a)) 7 (upd (F 7) (I 26).toNatClampNeg b)) 8 (upd (F 8) (I 26).toNatClampNeg c9)) 9 (upd (F 9) (I 26).toNatClampNeg (I 24))) rw gd gl) H locs := h
          refine lv_aload_n hx hb dX10_error_88 rfl (lv_at hl 0 rfl) ?_
          refine lv_dup hx hb dX10_error_89 rfl ?_
          refine r_get C h 0 rfl (Cn := RX10) (T := TX10) (N := 50) rfl hinX10 26 (by decide) (index := 216) (ref := "ScaleHouseModel") wd1 rfl (v := .int (I 26)) rfl dX10_error_90 ?_
          refine lv_iconst (v := 1) hx hb dX10_error_93 (by decide) ?_
          refine lv_iadd hx hb dX10_error_94 ?_
          refine r_put C h 0 rfl (Cn := RX10) (T := TX10) (N := 50) rfl hinX10 tyX10 tyX10_ok nmX10 26 (by decide) (index := 216) (ref := "ScaleHouseModel") wd1 rfl rfl (v := .int ((I 26) + 1)) rfl rfl (show 26 < 50 by decide) dX10_error_95 (fun H locs h => ?_)
          have h : gS G A s (mW G ad (upd (upd I 0 0) 26 ((I 26) + 1)) (va_up (va_up (va_up (va_up F 6 (upd (F 6) (I 26).toNatClampNeg a)) 7 (upd (F 7) (I 26).toNatClampNeg b)) 8 (upd (F 8) (I 26).toNatClampNeg c9)) 9 (upd (F 9) (I 26).toNatClampNeg (I 24))) rw gd gl) H locs := h
          refine lv_iconst (v := 1) hx hb dX10_error_98 (by decide) ?_
          exact r_zret C h hr hlk (Nat.zero_le _) (Nat.zero_le _) (Or.inr rfl) () (by simp only [mError, if_neg c_11, if_neg c_20, if_neg c_33, if_neg c_40]) (by simp only [mError, if_neg c_11, if_neg c_20, if_neg c_33, if_neg c_40]) dX10_error_99
        · refine lv_iconst (v := 0) hx hb dX10_error_43 (by decide) ?_
          exact r_zret C h hr hlk (Nat.zero_le _) (Nat.zero_le _) (Or.inl rfl) () (by simp only [mError, if_neg c_11, if_neg c_20, if_neg c_33, if_pos c_40]) (by simp only [mError, if_neg c_11, if_neg c_20, if_neg c_33, if_pos c_40]) dX10_error_44
