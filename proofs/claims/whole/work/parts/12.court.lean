/-! ===== ScaleHouse$Court ===== -/
def crN (x t al : Int32) : Int32 := if t * al < (if 0 ≤ x - t then x - t else 0 - (x - t)) * 100 then 0 else 1
theorem crN_01 (x t al : Int32) : crN x t al = 0 ∨ crN x t al = 1 := (Decidable.em (t * al < (if 0 ≤ x - t then x - t else 0 - (x - t)) * 100)).elim (fun h => Or.inl (if_pos h)) (fun h => Or.inr (if_neg h))

set_option maxHeartbeats 4000000 in
set_option maxRecDepth 100000 in
theorem k_init (l : Launch) (G : gG) (h0 : Nat) : cM l yX0_init wsX0_init 1 20 (0) (0) G [.ref h0] ([(h0, .inr (0, [.int 0, .int 0, .int 0, .int 0]))]) (qV G (S := Unit) (fun _ => True) (fun _ => [(h0, .inr (0, [.int 3, .int (-1), .int 0, .int 0]))])) := by
  refine o_M (cc := cX0_init) (maxL := 1) (ret := none) (own := RX0) (by decide +kernel) rfl rfl (Nat.le_of_ble_eq_true rfl) ?_
  intro p e s m below meth c A ls H locs hA C h hr hlk hnm hl
  have hx := C.1.1.1
  have hb := C.1.1.2.1
  have hl : lv_has ls 1 [(0, .ref h0)] := hl
  have wd0 : Cond.methodLink RX0 3 objectInit ∈ wsX0_init := by decide +kernel
  have wd1 : Cond.instanceMethod objectInit ∈ wsX0_init := by decide +kernel
  have wd2 : Cond.code objectInit ⟨#[0xb1]⟩ 1 none ∈ wsX0_init := by decide +kernel
  have wd3 : Cond.fieldLink RX0 9 "ScaleHouse$Court" "allowance" "I" ∈ wsX0_init := by decide +kernel
  have hinX0 : ∀ w ∈ wsX00, w ∈ wsX0_init := by decide +kernel
  have wd4 : Cond.fieldLink RX0 15 "ScaleHouse$Court" "stood" "I" ∈ wsX0_init := by decide +kernel
  have wd5 : Cond.fieldLink RX0 18 "ScaleHouse$Court" "buyerOff" "I" ∈ wsX0_init := by decide +kernel
  have wd6 : Cond.fieldLink RX0 21 "ScaleHouse$Court" "sellerOff" "I" ∈ wsX0_init := by decide +kernel
  refine lv_aload_n hx hb dX0_init_0 rfl (lv_at hl 0 rfl) ?_
  refine r_objInit C wd0 wd1 wd2 hl.1 dX0_init_1 (Nat.le_of_ble_eq_true rfl) (Nat.le_of_ble_eq_true rfl) ?_
  refine lv_aload_n hx hb dX0_init_4 rfl (lv_at hl 0 rfl) ?_
  refine lv_iconst (v := 3) hx hb dX0_init_5 (by decide) ?_
  refine r_put C h 0 rfl (Cn := RX0) (T := TX0) (N := 4) rfl hinX0 tyX0 tyX0_ok nmX0 0 (by decide) (index := 9) (ref := "ScaleHouse$Court") wd3 rfl rfl (v := .int 3) rfl rfl (show 0 < 4 by decide) dX0_init_6 (fun H locs h => ?_)
  have h : gS G A s ([(h0, .inr (0, [.int 3, .int 0, .int 0, .int 0]))]) H locs := h
  refine lv_aload_n hx hb dX0_init_9 rfl (lv_at hl 0 rfl) ?_
  refine lv_iconst (v := -1) hx hb dX0_init_10 (by decide) ?_
  refine r_put C h 0 rfl (Cn := RX0) (T := TX0) (N := 4) rfl hinX0 tyX0 tyX0_ok nmX0 1 (by decide) (index := 15) (ref := "ScaleHouse$Court") wd4 rfl rfl (v := .int (-1)) rfl rfl (show 1 < 4 by decide) dX0_init_11 (fun H locs h => ?_)
  have h : gS G A s ([(h0, .inr (0, [.int 3, .int (-1), .int 0, .int 0]))]) H locs := h
  refine lv_aload_n hx hb dX0_init_14 rfl (lv_at hl 0 rfl) ?_
  refine lv_iconst (v := 0) hx hb dX0_init_15 (by decide) ?_
  refine r_put C h 0 rfl (Cn := RX0) (T := TX0) (N := 4) rfl hinX0 tyX0 tyX0_ok nmX0 2 (by decide) (index := 18) (ref := "ScaleHouse$Court") wd5 rfl rfl (v := .int 0) rfl rfl (show 2 < 4 by decide) dX0_init_16 (fun H locs h => ?_)
  have h : gS G A s ([(h0, .inr (0, [.int 3, .int (-1), .int 0, .int 0]))]) H locs := h
  refine lv_aload_n hx hb dX0_init_19 rfl (lv_at hl 0 rfl) ?_
  refine lv_iconst (v := 0) hx hb dX0_init_20 (by decide) ?_
  refine r_put C h 0 rfl (Cn := RX0) (T := TX0) (N := 4) rfl hinX0 tyX0 tyX0_ok nmX0 3 (by decide) (index := 21) (ref := "ScaleHouse$Court") wd6 rfl rfl (v := .int 0) rfl rfl (show 3 < 4 by decide) dX0_init_21 (fun H locs h => ?_)
  have h : gS G A s ([(h0, .inr (0, [.int 3, .int (-1), .int 0, .int 0]))]) H locs := h
  exact r_vret C h hr hlk (Nat.zero_le _) (Nat.zero_le _) () (trivial) (rfl) dX0_init_24

set_option maxHeartbeats 4000000 in
set_option maxRecDepth 100000 in
theorem k_isNear (l : Launch) (G : gG) (h0 : Nat) (al st bo so x t : Int32) : cM l yX0_isNear wsX0_isNear 1 30 (0) (0) G [.ref h0, .int x, .int t] ([(h0, .inr (0, [.int al, .int st, .int bo, .int so]))]) (qI G (S := Unit) (fun r _ => r = crN x t al) (fun _ => [(h0, .inr (0, [.int al, .int st, .int bo, .int so]))])) := by
  refine o_M (cc := cX0_isNear) (maxL := 3) (ret := (some .boolean)) (own := RX0) (by decide +kernel) rfl rfl (Nat.le_of_ble_eq_true rfl) ?_
  intro p e s m below meth c A ls H locs hA C h hr hlk hnm hl
  have hx := C.1.1.1
  have hb := C.1.1.2.1
  have hl : lv_has ls 3 [(0, .ref h0), (1, .int x), (2, .int t)] := hl
  have wd0 : Cond.methodLink RX0 28 Lib.Math.abs.name ∈ wsX0_isNear := by decide +kernel
  have wd1 : Cond.static Lib.Math.abs.name ∈ wsX0_isNear := by decide +kernel
  have wd2 : Cond.initialized "java/lang/Math" ∈ wsX0_isNear := by decide +kernel
  have wd3 : Cond.code Lib.Math.abs.name Lib.Math.abs.code 1 (some .int) ∈ wsX0_isNear := by decide +kernel
  have wd4 : Cond.fieldLink RX0 9 "ScaleHouse$Court" "allowance" "I" ∈ wsX0_isNear := by decide +kernel
  have hinX0 : ∀ w ∈ wsX00, w ∈ wsX0_isNear := by decide +kernel
  refine lv_iload_n hx hb dX0_isNear_0 rfl (lv_at hl 1 rfl) ?_
  refine lv_iload_n hx hb dX0_isNear_1 rfl (lv_at hl 2 rfl) ?_
  refine lv_isub hx hb dX0_isNear_2 ?_
  refine va_mabs hx hb (C.1.1.2.2.1.trans hl.1.symm) C.1.1.2.2.2.1 (C.1.1.2.2.2.2 _ wd0) (C.1.1.2.2.2.2 _ wd1) (C.1.1.2.2.2.2 _ wd2) (C.1.1.2.2.2.2 _ wd3) (Nat.le_of_ble_eq_true rfl) (Nat.le_of_ble_eq_true rfl) (Nat.le_of_ble_eq_true rfl) (Nat.le_of_ble_eq_true rfl) dX0_isNear_3 ?_
  refine lv_bipush (v := 100) hx hb dX0_isNear_6 (by decide) ?_
  refine lv_imul hx hb dX0_isNear_8 ?_
  refine lv_iload_n hx hb dX0_isNear_9 rfl (lv_at hl 2 rfl) ?_
  refine lv_aload_n hx hb dX0_isNear_10 rfl (lv_at hl 0 rfl) ?_
  refine r_get C h 0 rfl (Cn := RX0) (T := TX0) (N := 4) rfl hinX0 0 (by decide) (index := 9) (ref := "ScaleHouse$Court") wd4 rfl (v := .int al) rfl dX0_isNear_11 ?_
  refine lv_imul hx hb dX0_isNear_14 ?_
  refine lv_icmp_gt (tgt := 22) hx hb dX0_isNear_15 (by decide) (fun c_15 => ?_) (fun c_15 => ?_)
  · refine lv_iconst (v := 0) hx hb dX0_isNear_22 (by decide) ?_
    exact r_zret C h hr hlk (Nat.zero_le _) (Nat.zero_le _) (Or.inl rfl) () (by simp only [crN, if_pos c_15]) (rfl) dX0_isNear_23
  · refine lv_iconst (v := 1) hx hb dX0_isNear_18 (by decide) ?_
    refine lv_goto (tgt := 23) hx hb dX0_isNear_19 (by decide) ?_
    exact r_zret C h hr hlk (Nat.zero_le _) (Nat.zero_le _) (Or.inr rfl) () (by simp only [crN, if_neg c_15]) (rfl) dX0_isNear_23

def crD (x y t al : Int32) : Int32 := if crN x t al = crN y t al then (if crN x t al = 0 then 3 else 0) else if crN y t al = 0 then 2 else 1
def crSt (x y t al : Int32) : Int32 := if crN x t al = crN y t al then t else if crN y t al = 0 then x else y

set_option maxHeartbeats 4000000 in
set_option maxRecDepth 100000 in
theorem k_decide (l : Launch) (G : gG) (h0 : Nat) (al st bo so x y t : Int32) : cM l yX0_decide wsX0_decide 2 60 (0) (0) G [.ref h0, .int x, .int y, .int t] ([(h0, .inr (0, [.int al, .int st, .int bo, .int so]))]) (qI G (S := Unit) (fun r _ => r = crD x y t al) (fun _ => [(h0, .inr (0, [.int al, .int (crSt x y t al), .int (if crN x t al = 0 then bo + 1 else bo), .int (if crN y t al = 0 then so + 1 else so)]))])) := by
  refine o_M (cc := cX0_decide) (maxL := 6) (ret := (some .int)) (own := RX0) (by decide +kernel) rfl rfl (Nat.le_of_ble_eq_true rfl) ?_
  intro p e s m below meth c A ls H locs hA C h hr hlk hnm hl
  have hx := C.1.1.1
  have hb := C.1.1.2.1
  have hl : lv_has ls 6 [(0, .ref h0), (1, .int x), (2, .int y), (3, .int t)] := hl
  have wd0 : Cond.fieldLink RX0 15 "ScaleHouse$Court" "stood" "I" ∈ wsX0_decide := by decide +kernel
  have hinX0 : ∀ w ∈ wsX00, w ∈ wsX0_decide := by decide +kernel
  have wd1 : Cond.fieldLink RX0 21 "ScaleHouse$Court" "sellerOff" "I" ∈ wsX0_decide := by decide +kernel
  have wd2 : Cond.fieldLink RX0 18 "ScaleHouse$Court" "buyerOff" "I" ∈ wsX0_decide := by decide +kernel
  refine lv_aload_n hx hb dX0_decide_0 rfl (lv_at hl 0 rfl) ?_
  refine lv_iload_n hx hb dX0_decide_1 rfl (lv_at hl 1 rfl) ?_
  refine lv_iload_n hx hb dX0_decide_2 rfl (lv_at hl 3 rfl) ?_
  have hp : List.Perm ([(h0, .inr (0, [.int al, .int st, .int bo, .int so]))] : va_W) ([(h0, .inr (0, [.int al, .int st, .int bo, .int so]))] ++ []) := pm 1 rfl [0] (by decide +kernel) rfl
  refine k_i C h hp (r_runV C h hp 0 rfl rfl (As := [.int x, .int t]) (rest := []) (k_isNear l G h0 al st bo so x t) (cwV 2 C.1.1.2.2.2.2 gX0_decide_X0_isNear rfl rfl rfl (by decide +kernel) ⟨Nat.le_of_ble_eq_true rfl, Nat.le_of_ble_eq_true rfl⟩) rfl hl.1 (Nat.le_of_ble_eq_true rfl) dX0_decide_3 ⟨Nat.le_of_ble_eq_true rfl, Nat.le_of_ble_eq_true rfl⟩) (fun r_1 u_2 H locs hw_3 h => ?_)
  have h : gS G A s ([(h0, .inr (0, [.int al, .int st, .int bo, .int so]))]) H locs := h
  refine W.widen (k := 0) (n := 0) (Nat.le_of_ble_eq_true rfl) (Nat.le_of_ble_eq_true rfl) ?_
  subst hw_3
  refine lv_istore (lv' := [(4, .int (crN x t al)), (0, .ref h0), (1, .int x), (2, .int y), (3, .int t)]) hx hb dX0_decide_6 hl (by decide) rfl (fun ls hl => ?_)
  refine lv_aload_n hx hb dX0_decide_8 rfl (lv_at hl 1 rfl) ?_
  refine lv_iload_n hx hb dX0_decide_9 rfl (lv_at hl 3 rfl) ?_
  refine lv_iload_n hx hb dX0_decide_10 rfl (lv_at hl 4 rfl) ?_
  have hp : List.Perm ([(h0, .inr (0, [.int al, .int st, .int bo, .int so]))] : va_W) ([(h0, .inr (0, [.int al, .int st, .int bo, .int so]))] ++ []) := pm 1 rfl [0] (by decide +kernel) rfl
  refine k_i C h hp (r_runV C h hp 0 rfl rfl (As := [.int y, .int t]) (rest := []) (k_isNear l G h0 al st bo so y t) (cwV 2 C.1.1.2.2.2.2 gX0_decide_X0_isNear rfl rfl rfl (by decide +kernel) ⟨Nat.le_of_ble_eq_true rfl, Nat.le_of_ble_eq_true rfl⟩) rfl hl.1 (Nat.le_of_ble_eq_true rfl) dX0_decide_11 ⟨Nat.le_of_ble_eq_true rfl, Nat.le_of_ble_eq_true rfl⟩) (fun r_4 u_5 H locs hw_6 h => ?_)
  have h : gS G A s ([(h0, .inr (0, [.int al, .int st, .int bo, .int so]))]) H locs := h
  refine W.widen (k := 0) (n := 0) (Nat.le_of_ble_eq_true rfl) (Nat.le_of_ble_eq_true rfl) ?_
  subst hw_6
  refine lv_istore (lv' := [(5, .int (crN y t al)), (4, .int (crN x t al)), (0, .ref h0), (1, .int x), (2, .int y), (3, .int t)]) hx hb dX0_decide_14 hl (by decide) rfl (fun ls hl => ?_)
  refine lv_iload hx hb dX0_decide_16 (lv_at hl 1 rfl) ?_
  refine lv_if_ne (tgt := 31) hx hb dX0_decide_18 (by decide) (fun c_18 => ?_) (fun c_18 => ?_)
  · refine lv_iload hx hb dX0_decide_31 (lv_at hl 0 rfl) ?_
    refine lv_if_ne (tgt := 46) hx hb dX0_decide_33 (by decide) (fun c_33 => ?_) (fun c_33 => ?_)
    · refine lv_iload hx hb dX0_decide_46 (lv_at hl 1 rfl) ?_
      refine lv_iload hx hb dX0_decide_48 (lv_at hl 0 rfl) ?_
      refine lv_icmp_ne (tgt := 69) hx hb dX0_decide_50 (by decide) (fun c_50 => ?_) (fun c_50 => ?_)
      · refine lv_aload_n hx hb dX0_decide_69 rfl (lv_at hl 2 rfl) ?_
        refine lv_iload hx hb dX0_decide_70 (lv_at hl 0 rfl) ?_
        refine lv_if_eq (tgt := 79) hx hb dX0_decide_72 (by decide) (fun c_72 => ?_) (fun c_72 => ?_)
        · exact absurd c_72 c_33
        · refine lv_iload_n hx hb dX0_decide_75 rfl (lv_at hl 4 rfl) ?_
          refine lv_goto (tgt := 80) hx hb dX0_decide_76 (by decide) ?_
          refine r_put C h 0 rfl (Cn := RX0) (T := TX0) (N := 4) rfl hinX0 tyX0 tyX0_ok nmX0 1 (by decide) (index := 15) (ref := "ScaleHouse$Court") wd0 rfl rfl (v := .int y) rfl rfl (show 1 < 4 by decide) dX0_decide_80 (fun H locs h => ?_)
          have h : gS G A s ([(h0, .inr (0, [.int al, .int y, .int bo, .int so]))]) H locs := h
          refine lv_iload hx hb dX0_decide_83 (lv_at hl 0 rfl) ?_
          refine lv_if_eq (tgt := 92) hx hb dX0_decide_85 (by decide) (fun c_85 => ?_) (fun c_85 => ?_)
          · exact absurd c_85 c_33
          · refine lv_iconst (v := 1) hx hb dX0_decide_88 (by decide) ?_
            refine lv_goto (tgt := 93) hx hb dX0_decide_89 (by decide) ?_
            exact r_iret C h hr hlk (Nat.zero_le _) (Nat.zero_le _) () (by first | (simp only [crD, if_neg c_18, if_neg c_33, if_neg c_50]; done) | (simp_all [crD]; done)) (by first | (simp only [crSt, if_neg c_18, if_neg c_33, if_neg c_50]; done) | (simp_all [crSt]; done)) dX0_decide_93
      · refine lv_aload_n hx hb dX0_decide_53 rfl (lv_at hl 2 rfl) ?_
        refine lv_iload_n hx hb dX0_decide_54 rfl (lv_at hl 5 rfl) ?_
        refine r_put C h 0 rfl (Cn := RX0) (T := TX0) (N := 4) rfl hinX0 tyX0 tyX0_ok nmX0 1 (by decide) (index := 15) (ref := "ScaleHouse$Court") wd0 rfl rfl (v := .int t) rfl rfl (show 1 < 4 by decide) dX0_decide_55 (fun H locs h => ?_)
        have h : gS G A s ([(h0, .inr (0, [.int al, .int t, .int bo, .int so]))]) H locs := h
        refine lv_iload hx hb dX0_decide_58 (lv_at hl 1 rfl) ?_
        refine lv_if_eq (tgt := 67) hx hb dX0_decide_60 (by decide) (fun c_60 => ?_) (fun c_60 => ?_)
        · exact absurd c_60 c_18
        · refine lv_iconst (v := 0) hx hb dX0_decide_63 (by decide) ?_
          refine lv_goto (tgt := 68) hx hb dX0_decide_64 (by decide) ?_
          exact r_iret C h hr hlk (Nat.zero_le _) (Nat.zero_le _) () (by first | (simp only [crD, if_neg c_18, if_neg c_33, if_pos c_50]; done) | (simp_all [crD]; done)) (by first | (simp only [crSt, if_neg c_18, if_neg c_33, if_pos c_50]; done) | (simp_all [crSt]; done)) dX0_decide_68
    · refine lv_aload_n hx hb dX0_decide_36 rfl (lv_at hl 2 rfl) ?_
      refine lv_dup hx hb dX0_decide_37 rfl ?_
      refine r_get C h 0 rfl (Cn := RX0) (T := TX0) (N := 4) rfl hinX0 3 (by decide) (index := 21) (ref := "ScaleHouse$Court") wd1 rfl (v := .int so) rfl dX0_decide_38 ?_
      refine lv_iconst (v := 1) hx hb dX0_decide_41 (by decide) ?_
      refine lv_iadd hx hb dX0_decide_42 ?_
      refine r_put C h 0 rfl (Cn := RX0) (T := TX0) (N := 4) rfl hinX0 tyX0 tyX0_ok nmX0 3 (by decide) (index := 21) (ref := "ScaleHouse$Court") wd1 rfl rfl (v := .int (so + 1)) rfl rfl (show 3 < 4 by decide) dX0_decide_43 (fun H locs h => ?_)
      have h : gS G A s ([(h0, .inr (0, [.int al, .int st, .int bo, .int (so + 1)]))]) H locs := h
      refine lv_iload hx hb dX0_decide_46 (lv_at hl 1 rfl) ?_
      refine lv_iload hx hb dX0_decide_48 (lv_at hl 0 rfl) ?_
      refine lv_icmp_ne (tgt := 69) hx hb dX0_decide_50 (by decide) (fun c_50 => ?_) (fun c_50 => ?_)
      · refine lv_aload_n hx hb dX0_decide_69 rfl (lv_at hl 2 rfl) ?_
        refine lv_iload hx hb dX0_decide_70 (lv_at hl 0 rfl) ?_
        refine lv_if_eq (tgt := 79) hx hb dX0_decide_72 (by decide) (fun c_72 => ?_) (fun c_72 => ?_)
        · refine lv_iload_n hx hb dX0_decide_79 rfl (lv_at hl 3 rfl) ?_
          refine r_put C h 0 rfl (Cn := RX0) (T := TX0) (N := 4) rfl hinX0 tyX0 tyX0_ok nmX0 1 (by decide) (index := 15) (ref := "ScaleHouse$Court") wd0 rfl rfl (v := .int x) rfl rfl (show 1 < 4 by decide) dX0_decide_80 (fun H locs h => ?_)
          have h : gS G A s ([(h0, .inr (0, [.int al, .int x, .int bo, .int (so + 1)]))]) H locs := h
          refine lv_iload hx hb dX0_decide_83 (lv_at hl 0 rfl) ?_
          refine lv_if_eq (tgt := 92) hx hb dX0_decide_85 (by decide) (fun c_85 => ?_) (fun c_85 => ?_)
          · refine lv_iconst (v := 2) hx hb dX0_decide_92 (by decide) ?_
            exact r_iret C h hr hlk (Nat.zero_le _) (Nat.zero_le _) () (by first | (simp only [crD, if_neg c_18, if_pos c_33, if_neg c_50]; done) | (simp_all [crD]; done)) (by first | (simp only [crSt, if_neg c_18, if_pos c_33, if_neg c_50]; done) | (simp_all [crSt]; done)) dX0_decide_93
          · exact absurd c_33 c_85
        · exact absurd c_33 c_72
      · refine lv_aload_n hx hb dX0_decide_53 rfl (lv_at hl 2 rfl) ?_
        refine lv_iload_n hx hb dX0_decide_54 rfl (lv_at hl 5 rfl) ?_
        refine r_put C h 0 rfl (Cn := RX0) (T := TX0) (N := 4) rfl hinX0 tyX0 tyX0_ok nmX0 1 (by decide) (index := 15) (ref := "ScaleHouse$Court") wd0 rfl rfl (v := .int t) rfl rfl (show 1 < 4 by decide) dX0_decide_55 (fun H locs h => ?_)
        have h : gS G A s ([(h0, .inr (0, [.int al, .int t, .int bo, .int (so + 1)]))]) H locs := h
        refine lv_iload hx hb dX0_decide_58 (lv_at hl 1 rfl) ?_
        refine lv_if_eq (tgt := 67) hx hb dX0_decide_60 (by decide) (fun c_60 => ?_) (fun c_60 => ?_)
        · exact absurd c_60 c_18
        · refine lv_iconst (v := 0) hx hb dX0_decide_63 (by decide) ?_
          refine lv_goto (tgt := 68) hx hb dX0_decide_64 (by decide) ?_
          exact r_iret C h hr hlk (Nat.zero_le _) (Nat.zero_le _) () (by first | (simp only [crD, if_neg c_18, if_pos c_33, if_pos c_50]; done) | (simp_all [crD]; done)) (by first | (simp only [crSt, if_neg c_18, if_pos c_33, if_pos c_50]; done) | (simp_all [crSt]; done)) dX0_decide_68
  · refine lv_aload_n hx hb dX0_decide_21 rfl (lv_at hl 2 rfl) ?_
    refine lv_dup hx hb dX0_decide_22 rfl ?_
    refine r_get C h 0 rfl (Cn := RX0) (T := TX0) (N := 4) rfl hinX0 2 (by decide) (index := 18) (ref := "ScaleHouse$Court") wd2 rfl (v := .int bo) rfl dX0_decide_23 ?_
    refine lv_iconst (v := 1) hx hb dX0_decide_26 (by decide) ?_
    refine lv_iadd hx hb dX0_decide_27 ?_
    refine r_put C h 0 rfl (Cn := RX0) (T := TX0) (N := 4) rfl hinX0 tyX0 tyX0_ok nmX0 2 (by decide) (index := 18) (ref := "ScaleHouse$Court") wd2 rfl rfl (v := .int (bo + 1)) rfl rfl (show 2 < 4 by decide) dX0_decide_28 (fun H locs h => ?_)
    have h : gS G A s ([(h0, .inr (0, [.int al, .int st, .int (bo + 1), .int so]))]) H locs := h
    refine lv_iload hx hb dX0_decide_31 (lv_at hl 0 rfl) ?_
    refine lv_if_ne (tgt := 46) hx hb dX0_decide_33 (by decide) (fun c_33 => ?_) (fun c_33 => ?_)
    · refine lv_iload hx hb dX0_decide_46 (lv_at hl 1 rfl) ?_
      refine lv_iload hx hb dX0_decide_48 (lv_at hl 0 rfl) ?_
      refine lv_icmp_ne (tgt := 69) hx hb dX0_decide_50 (by decide) (fun c_50 => ?_) (fun c_50 => ?_)
      · refine lv_aload_n hx hb dX0_decide_69 rfl (lv_at hl 2 rfl) ?_
        refine lv_iload hx hb dX0_decide_70 (lv_at hl 0 rfl) ?_
        refine lv_if_eq (tgt := 79) hx hb dX0_decide_72 (by decide) (fun c_72 => ?_) (fun c_72 => ?_)
        · exact absurd c_72 c_33
        · refine lv_iload_n hx hb dX0_decide_75 rfl (lv_at hl 4 rfl) ?_
          refine lv_goto (tgt := 80) hx hb dX0_decide_76 (by decide) ?_
          refine r_put C h 0 rfl (Cn := RX0) (T := TX0) (N := 4) rfl hinX0 tyX0 tyX0_ok nmX0 1 (by decide) (index := 15) (ref := "ScaleHouse$Court") wd0 rfl rfl (v := .int y) rfl rfl (show 1 < 4 by decide) dX0_decide_80 (fun H locs h => ?_)
          have h : gS G A s ([(h0, .inr (0, [.int al, .int y, .int (bo + 1), .int so]))]) H locs := h
          refine lv_iload hx hb dX0_decide_83 (lv_at hl 0 rfl) ?_
          refine lv_if_eq (tgt := 92) hx hb dX0_decide_85 (by decide) (fun c_85 => ?_) (fun c_85 => ?_)
          · exact absurd c_85 c_33
          · refine lv_iconst (v := 1) hx hb dX0_decide_88 (by decide) ?_
            refine lv_goto (tgt := 93) hx hb dX0_decide_89 (by decide) ?_
            exact r_iret C h hr hlk (Nat.zero_le _) (Nat.zero_le _) () (by first | (simp only [crD, if_pos c_18, if_neg c_33, if_neg c_50]; done) | (simp_all [crD]; done)) (by first | (simp only [crSt, if_pos c_18, if_neg c_33, if_neg c_50]; done) | (simp_all [crSt]; done)) dX0_decide_93
      · refine lv_aload_n hx hb dX0_decide_53 rfl (lv_at hl 2 rfl) ?_
        refine lv_iload_n hx hb dX0_decide_54 rfl (lv_at hl 5 rfl) ?_
        refine r_put C h 0 rfl (Cn := RX0) (T := TX0) (N := 4) rfl hinX0 tyX0 tyX0_ok nmX0 1 (by decide) (index := 15) (ref := "ScaleHouse$Court") wd0 rfl rfl (v := .int t) rfl rfl (show 1 < 4 by decide) dX0_decide_55 (fun H locs h => ?_)
        have h : gS G A s ([(h0, .inr (0, [.int al, .int t, .int (bo + 1), .int so]))]) H locs := h
        refine lv_iload hx hb dX0_decide_58 (lv_at hl 1 rfl) ?_
        refine lv_if_eq (tgt := 67) hx hb dX0_decide_60 (by decide) (fun c_60 => ?_) (fun c_60 => ?_)
        · refine lv_iconst (v := 3) hx hb dX0_decide_67 (by decide) ?_
          exact r_iret C h hr hlk (Nat.zero_le _) (Nat.zero_le _) () (by first | (simp only [crD, if_pos c_18, if_neg c_33, if_pos c_50]; done) | (simp_all [crD]; done)) (by first | (simp only [crSt, if_pos c_18, if_neg c_33, if_pos c_50]; done) | (simp_all [crSt]; done)) dX0_decide_68
        · exact absurd c_18 c_60
    · refine lv_aload_n hx hb dX0_decide_36 rfl (lv_at hl 2 rfl) ?_
      refine lv_dup hx hb dX0_decide_37 rfl ?_
      refine r_get C h 0 rfl (Cn := RX0) (T := TX0) (N := 4) rfl hinX0 3 (by decide) (index := 21) (ref := "ScaleHouse$Court") wd1 rfl (v := .int so) rfl dX0_decide_38 ?_
      refine lv_iconst (v := 1) hx hb dX0_decide_41 (by decide) ?_
      refine lv_iadd hx hb dX0_decide_42 ?_
      refine r_put C h 0 rfl (Cn := RX0) (T := TX0) (N := 4) rfl hinX0 tyX0 tyX0_ok nmX0 3 (by decide) (index := 21) (ref := "ScaleHouse$Court") wd1 rfl rfl (v := .int (so + 1)) rfl rfl (show 3 < 4 by decide) dX0_decide_43 (fun H locs h => ?_)
      have h : gS G A s ([(h0, .inr (0, [.int al, .int st, .int (bo + 1), .int (so + 1)]))]) H locs := h
      refine lv_iload hx hb dX0_decide_46 (lv_at hl 1 rfl) ?_
      refine lv_iload hx hb dX0_decide_48 (lv_at hl 0 rfl) ?_
      refine lv_icmp_ne (tgt := 69) hx hb dX0_decide_50 (by decide) (fun c_50 => ?_) (fun c_50 => ?_)
      · refine lv_aload_n hx hb dX0_decide_69 rfl (lv_at hl 2 rfl) ?_
        refine lv_iload hx hb dX0_decide_70 (lv_at hl 0 rfl) ?_
        refine lv_if_eq (tgt := 79) hx hb dX0_decide_72 (by decide) (fun c_72 => ?_) (fun c_72 => ?_)
        · refine lv_iload_n hx hb dX0_decide_79 rfl (lv_at hl 3 rfl) ?_
          refine r_put C h 0 rfl (Cn := RX0) (T := TX0) (N := 4) rfl hinX0 tyX0 tyX0_ok nmX0 1 (by decide) (index := 15) (ref := "ScaleHouse$Court") wd0 rfl rfl (v := .int x) rfl rfl (show 1 < 4 by decide) dX0_decide_80 (fun H locs h => ?_)
          have h : gS G A s ([(h0, .inr (0, [.int al, .int x, .int (bo + 1), .int (so + 1)]))]) H locs := h
          refine lv_iload hx hb dX0_decide_83 (lv_at hl 0 rfl) ?_
          refine lv_if_eq (tgt := 92) hx hb dX0_decide_85 (by decide) (fun c_85 => ?_) (fun c_85 => ?_)
          · refine lv_iconst (v := 2) hx hb dX0_decide_92 (by decide) ?_
            exact r_iret C h hr hlk (Nat.zero_le _) (Nat.zero_le _) () (by first | (simp only [crD, if_pos c_18, if_pos c_33, if_neg c_50]; done) | (simp_all [crD]; done)) (by first | (simp only [crSt, if_pos c_18, if_pos c_33, if_neg c_50]; done) | (simp_all [crSt]; done)) dX0_decide_93
          · exact absurd c_33 c_85
        · exact absurd c_33 c_72
      · refine lv_aload_n hx hb dX0_decide_53 rfl (lv_at hl 2 rfl) ?_
        refine lv_iload_n hx hb dX0_decide_54 rfl (lv_at hl 5 rfl) ?_
        refine r_put C h 0 rfl (Cn := RX0) (T := TX0) (N := 4) rfl hinX0 tyX0 tyX0_ok nmX0 1 (by decide) (index := 15) (ref := "ScaleHouse$Court") wd0 rfl rfl (v := .int t) rfl rfl (show 1 < 4 by decide) dX0_decide_55 (fun H locs h => ?_)
        have h : gS G A s ([(h0, .inr (0, [.int al, .int t, .int (bo + 1), .int (so + 1)]))]) H locs := h
        refine lv_iload hx hb dX0_decide_58 (lv_at hl 1 rfl) ?_
        refine lv_if_eq (tgt := 67) hx hb dX0_decide_60 (by decide) (fun c_60 => ?_) (fun c_60 => ?_)
        · refine lv_iconst (v := 3) hx hb dX0_decide_67 (by decide) ?_
          exact r_iret C h hr hlk (Nat.zero_le _) (Nat.zero_le _) () (by first | (simp only [crD, if_pos c_18, if_pos c_33, if_pos c_50]; done) | (simp_all [crD]; done)) (by first | (simp only [crSt, if_pos c_18, if_pos c_33, if_pos c_50]; done) | (simp_all [crSt]; done)) dX0_decide_68
        · exact absurd c_18 c_60
