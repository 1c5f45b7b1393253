/-! ===== ScaleHouse$Pairing: rows compared, pairs settled ===== -/
def aI (x : Int32) : Int32 := if 0 ≤ x then x else 0 - x
def hAg (td tl : Int32) (bd bl sd sl : Nat → Int32) (a b : Nat) : Bool := decide (¬ td < aI (bd a - sd b)) && decide (¬ tl < aI (bl a - sl b))
def bm (e : Nat → Bool) : Nat → Nat
  | 0 => 0
  | k + 1 => bm e k + if e k = true then 2 ^ k else 0
theorem bm_lt (e : Nat → Bool) : ∀ k, bm e k < 2 ^ k
  | 0 => Nat.zero_lt_one
  | k + 1 => by
    rw [bm, Nat.pow_succ]
    have := bm_lt e k
    split <;> omega
theorem bm_bit (e : Nat → Bool) : ∀ k j, j < k → (bm e k).testBit j = e j
  | k + 1, j, h => by
    rw [bm]
    rcases Nat.lt_or_ge j k with w | w
    · cases he : e k with
      | false => rw [if_neg (by decide), Nat.add_zero]; exact bm_bit e k j w
      | true => rw [if_pos rfl, Nat.add_comm, Nat.testBit_two_pow_add_gt w]; exact bm_bit e k j w
    · obtain rfl : j = k := by omega
      cases he : e j with
      | false => rw [if_neg (by decide), Nat.add_zero]; exact Nat.testBit_lt_two_pow (bm_lt e j)
      | true => rw [if_pos rfl, Nat.add_comm, Nat.testBit_two_pow_add_eq, Nat.testBit_lt_two_pow (bm_lt e j)]; rfl
theorem sh_1 : ∀ k, k < 20 → (1 : Int32) <<< (nI k &&& 31) = nI (2 ^ k) := by decide
theorem sh_m : ∀ k, k < 20 → ((nI k &&& 31 : Int32).toBitVec.smod 32).toNat = k := by decide
theorem abit_nI {m j : Nat} (hm : m < 2 ^ 20) (hj : j < 20) : abit (nI m) j = m.testBit j := by
  unfold abit
  rw [pk_shrN (by omega) _ j (sh_m j hj), show (1 : Int32) = nI (2 ^ 1 - 1) from rfl, fa_mask, Nat.testBit_eq_decide_div_mod_eq]
  have h2 : m / 2 ^ j % 2 ^ 1 < 2 := Nat.mod_lt _ (by decide)
  rcases (show m / 2 ^ j % 2 ^ 1 = 0 ∨ m / 2 ^ j % 2 ^ 1 = 1 by omega) with h | h
  · rw [h]; decide
  · rw [h]; decide
def agR (E : Nat → Nat → Bool) (ns i : Nat) (ag : Nat → Int32) : Nat → Int32 := fun a => if a < i then nI (bm (E a) ns) else ag a
theorem agR_0 (E : Nat → Nat → Bool) (ns : Nat) (ag : Nat → Int32) : agR E ns 0 ag = ag := funext fun _ => if_neg (Nat.not_lt_zero _)
theorem agR_s (E : Nat → Nat → Bool) (ns i : Nat) (ag : Nat → Int32) : upd (agR E ns i ag) i (nI (bm (E i) ns)) = agR E ns (i + 1) ag := by
  funext a
  unfold upd agR
  by_cases e : a = i
  · rw [if_pos e, if_pos (by omega), e]
  · rw [if_neg e]
    by_cases e2 : a < i
    · rw [if_pos e2, if_pos (by omega)]
    · rw [if_neg e2, if_neg (by omega)]
theorem agR_E {E : Nat → Nat → Bool} {ns nb : Nat} {ag : Nat → Int32} (hns : ns ≤ 20) (a b : Nat) (ha : a < nb) (hb : b < ns) : pE (agR E ns nb ag) a b = E a b := by
  unfold pE
  rw [show agR E ns nb ag a = nI (bm (E a) ns) from if_pos ha, abit_nI (Nat.lt_of_lt_of_le (bm_lt _ _) (Nat.pow_le_pow_right (by decide) hns)) (by omega), bm_bit _ _ _ hb]

set_option maxHeartbeats 4000000 in
set_option maxRecDepth 100000 in
theorem lp_X4_cmp_in {p : Program} {l : Launch} {e : Env} {fr lo : Nat} {s : State} {m : MethodId} {args : Array Value} {below : List Frame} {meth : Method} {c : Code} {Q : State → Prop} {G : gG} {A : Nat → Prop} (C : gC p m c cX4_compareRows 3 s args wsX4_compareRows RX4 G A) (ad : Nat → Nat) (td tl fd st : Int32) (nb ns : Nat) (bd bl sd sl : Nat → Int32) (so bo : Nat → Option Nat) (ag : Nat → Int32) (rf : Nat → Option Nat) (wt : Nat → Nat) (hnb : nb ≤ 20) (hns : ns ≤ 20) (i : Nat) (hi2 : i < nb) (hfr : 1 ≤ fr) (hlo : 20 ≤ lo) (kx : ∀ (H : Heap) (locs : List Loc) (ls : Array Slot), gS G A s (pW G ad td tl fd st nb ns bd bl sd sl so bo (agR (hAg td tl bd bl sd sl) ns (i + 1) ag) rf wt) H locs → lv_has ls 3 [(0, .ref (ad 0)), (1, .int (nI i))] → W p l e (gR fr lo 0 0) s m args below meth c H locs 0 0 Q (F0 m 109 ls [])) :
    ∀ (r : Nat) (k : Nat) (H : Heap) (locs : List Loc) (ls : Array Slot), (k + r = ns) →  gS G A s (pW G ad td tl fd st nb ns bd bl sd sl so bo (upd (agR (hAg td tl bd bl sd sl) ns i ag) i (nI (bm ((hAg td tl bd bl sd sl) i) k))) rf wt) H locs → lv_has ls 3 [(0, .ref (ad 0)), (1, .int (nI i)), (2, .int (nI k))] → W p l e (gR fr lo 0 0) s m args below meth c H locs 0 0 Q (F0 m 22 ls []) := by
  have hx := C.1.1.1
  have hb := C.1.1.2.1
  have wd0 : Cond.fieldLink RX4 18 "ScaleHouse$Pairing" "seller" "LScaleHouse$Tally;" ∈ wsX4_compareRows := by decide +kernel
  have hinX4 : ∀ w ∈ wsX40, w ∈ wsX4_compareRows := fun _ h => List.mem_cons_of_mem _ (List.mem_append_left _ (List.mem_append_right _ h))
  have wd1 : Cond.fieldLinkNest RX4 55 "ScaleHouse$Tally" "size" "I" "ScaleHouse" ∈ nW := by decide +kernel
  have hinX7 : ∀ w ∈ wsX70, w ∈ wsX4_compareRows := fun _ h => List.mem_cons_of_mem _ (List.mem_append_right _ h)
  have wd2 : Cond.fieldLink RX4 12 "ScaleHouse$Pairing" "buyer" "LScaleHouse$Tally;" ∈ wsX4_compareRows := by decide +kernel
  have wd3 : Cond.fieldLinkNest RX4 68 "ScaleHouse$Tally" "ds" "[I" "ScaleHouse" ∈ nW := by decide +kernel
  have wd4 : Cond.methodLink RX4 71 Lib.Math.abs.name ∈ wsX4_compareRows := by decide +kernel
  have wd5 : Cond.static Lib.Math.abs.name ∈ wsX4_compareRows := by decide +kernel
  have wd6 : Cond.initialized "java/lang/Math" ∈ wsX4_compareRows := by decide +kernel
  have wd7 : Cond.code Lib.Math.abs.name Lib.Math.abs.code 1 (some .int) ∈ wsX4_compareRows := by decide +kernel
  have wd8 : Cond.fieldLink RX4 37 "ScaleHouse$Pairing" "td" "I" ∈ wsX4_compareRows := by decide +kernel
  have wd9 : Cond.fieldLinkNest RX4 77 "ScaleHouse$Tally" "ls" "[I" "ScaleHouse" ∈ nW := by decide +kernel
  have wd10 : Cond.fieldLink RX4 41 "ScaleHouse$Pairing" "tl" "I" ∈ wsX4_compareRows := by decide +kernel
  have wd11 : Cond.fieldLink RX4 28 "ScaleHouse$Pairing" "agreeing" "[I" ∈ wsX4_compareRows := by decide +kernel
  intro r
  induction r with
  | zero =>
    intro k H locs ls hk h hl
    refine lv_iload_n hx hb dX4_compareRows_22 rfl (lv_at hl 2 rfl) ?_
    refine lv_aload_n hx hb dX4_compareRows_23 rfl (lv_at hl 0 rfl) ?_
    refine r_get C h 0 rfl (Cn := RX4) (T := TX4) (N := 11) rfl hinX4 1 (by decide) (index := 18) (ref := "ScaleHouse$Pairing") wd0 rfl (v := .ref (ad 4)) rfl dX4_compareRows_24 ?_
    refine r_getN C h 4 rfl (Cn := RX7) (T := TX7) (N := 3) rfl hinX7 2 (by decide) (index := 55) (ref := "ScaleHouse$Tally") wd1 rfl (v := .int (nI ns)) rfl dX4_compareRows_27 ?_
    refine lv_icmp_ge (tgt := 109) hx hb dX4_compareRows_30 (by decide) (fun c_30 => ?_) (fun c_30 => ?_)
    · obtain rfl : k = ns := by omega
      rw [agR_s] at h
      exact kx _ _ ls h (lv_sub hl [0, 1] rfl)
    · exact absurd (by rw [show k = ns by omega]; exact Int32.le_refl _) c_30
  | succ r ih =>
    intro k H locs ls hk h hl
    refine lv_iload_n hx hb dX4_compareRows_22 rfl (lv_at hl 2 rfl) ?_
    refine lv_aload_n hx hb dX4_compareRows_23 rfl (lv_at hl 0 rfl) ?_
    refine r_get C h 0 rfl (Cn := RX4) (T := TX4) (N := 11) rfl hinX4 1 (by decide) (index := 18) (ref := "ScaleHouse$Pairing") wd0 rfl (v := .ref (ad 4)) rfl dX4_compareRows_24 ?_
    refine r_getN C h 4 rfl (Cn := RX7) (T := TX7) (N := 3) rfl hinX7 2 (by decide) (index := 55) (ref := "ScaleHouse$Tally") wd1 rfl (v := .int (nI ns)) rfl dX4_compareRows_27 ?_
    refine lv_icmp_ge (tgt := 109) hx hb dX4_compareRows_30 (by decide) (fun c_30 => ?_) (fun c_30 => ?_)
    · exact absurd c_30 (nI_ge (by omega) (by omega))
    · refine lv_aload_n hx hb dX4_compareRows_33 rfl (lv_at hl 0 rfl) ?_
      refine r_get C h 0 rfl (Cn := RX4) (T := TX4) (N := 11) rfl hinX4 0 (by decide) (index := 12) (ref := "ScaleHouse$Pairing") wd2 rfl (v := .ref (ad 1)) rfl dX4_compareRows_34 ?_
      refine r_getN C h 1 rfl (Cn := RX7) (T := TX7) (N := 3) rfl hinX7 0 (by decide) (index := 68) (ref := "ScaleHouse$Tally") wd3 rfl (v := .ref (ad 2)) rfl dX4_compareRows_37 ?_
      refine lv_iload_n hx hb dX4_compareRows_40 rfl (lv_at hl 1 rfl) ?_
      refine r_iald C h 2 rfl (i := (nI i)) (vp_in_nI (by omega) (by decide)) dX4_compareRows_41 ?_
      refine lv_cgi (y := (bd i)) (nn_at bd (by omega)) ?_
      refine lv_aload_n hx hb dX4_compareRows_42 rfl (lv_at hl 0 rfl) ?_
      refine r_get C h 0 rfl (Cn := RX4) (T := TX4) (N := 11) rfl hinX4 1 (by decide) (index := 18) (ref := "ScaleHouse$Pairing") wd0 rfl (v := .ref (ad 4)) rfl dX4_compareRows_43 ?_
      refine r_getN C h 4 rfl (Cn := RX7) (T := TX7) (N := 3) rfl hinX7 0 (by decide) (index := 68) (ref := "ScaleHouse$Tally") wd3 rfl (v := .ref (ad 5)) rfl dX4_compareRows_46 ?_
      refine lv_iload_n hx hb dX4_compareRows_49 rfl (lv_at hl 2 rfl) ?_
      refine r_iald C h 5 rfl (i := (nI k)) (vp_in_nI (by omega) (by decide)) dX4_compareRows_50 ?_
      refine lv_cgi (y := (sd k)) (nn_at sd (by omega)) ?_
      refine lv_isub hx hb dX4_compareRows_51 ?_
      refine va_mabs hx hb (C.1.1.2.2.1.trans hl.1.symm) C.1.1.2.2.2.1 (C.1.1.2.2.2.2 _ wd4) (C.1.1.2.2.2.2 _ wd5) (C.1.1.2.2.2.2 _ wd6) (C.1.1.2.2.2.2 _ wd7) (Nat.le_trans (m := 1) (Nat.le_of_ble_eq_true rfl) (by show 1 ≤ fr; omega)) (Nat.le_trans (m := 20) (Nat.le_of_ble_eq_true rfl) (by show 20 ≤ lo; omega)) (Nat.le_of_ble_eq_true rfl) (Nat.le_of_ble_eq_true rfl) dX4_compareRows_52 ?_
      refine lv_cgi (y := (aI (bd i - sd k))) (rfl) ?_
      refine lv_aload_n hx hb dX4_compareRows_55 rfl (lv_at hl 0 rfl) ?_
      refine r_get C h 0 rfl (Cn := RX4) (T := TX4) (N := 11) rfl hinX4 7 (by decide) (index := 37) (ref := "ScaleHouse$Pairing") wd8 rfl (v := .int td) rfl dX4_compareRows_56 ?_
      refine lv_icmp_gt (tgt := 103) hx hb dX4_compareRows_59 (by decide) (fun c_59 => ?_) (fun c_59 => ?_)
      · have eE : ¬ (hAg td tl bd bl sd sl) i k = true := fun z9 => (of_decide_eq_true (Bool.and_eq_true_iff.mp z9).1) c_59
        refine lv_iinc (v := nI (k + 1)) (lv' := [(2, .int (nI (k + 1))), (0, .ref (ad 0)), (1, .int (nI i))]) hx hb dX4_compareRows_103 hl (k := 2) rfl (nI_1 _) (by decide) rfl (fun ls hl => ?_)
        refine lv_goto (tgt := 22) hx hb dX4_compareRows_106 (by decide) ?_
        exact ih (k + 1) _ _ ls (by omega) (by rw [bm, if_neg eE, Nat.add_zero]; exact h) (lv_sub hl [1, 2, 0] rfl)
      · refine lv_aload_n hx hb dX4_compareRows_62 rfl (lv_at hl 0 rfl) ?_
        refine r_get C h 0 rfl (Cn := RX4) (T := TX4) (N := 11) rfl hinX4 0 (by decide) (index := 12) (ref := "ScaleHouse$Pairing") wd2 rfl (v := .ref (ad 1)) rfl dX4_compareRows_63 ?_
        refine r_getN C h 1 rfl (Cn := RX7) (T := TX7) (N := 3) rfl hinX7 1 (by decide) (index := 77) (ref := "ScaleHouse$Tally") wd9 rfl (v := .ref (ad 3)) rfl dX4_compareRows_66 ?_
        refine lv_iload_n hx hb dX4_compareRows_69 rfl (lv_at hl 1 rfl) ?_
        refine r_iald C h 3 rfl (i := (nI i)) (vp_in_nI (by omega) (by decide)) dX4_compareRows_70 ?_
        refine lv_cgi (y := (bl i)) (nn_at bl (by omega)) ?_
        refine lv_aload_n hx hb dX4_compareRows_71 rfl (lv_at hl 0 rfl) ?_
        refine r_get C h 0 rfl (Cn := RX4) (T := TX4) (N := 11) rfl hinX4 1 (by decide) (index := 18) (ref := "ScaleHouse$Pairing") wd0 rfl (v := .ref (ad 4)) rfl dX4_compareRows_72 ?_
        refine r_getN C h 4 rfl (Cn := RX7) (T := TX7) (N := 3) rfl hinX7 1 (by decide) (index := 77) (ref := "ScaleHouse$Tally") wd9 rfl (v := .ref (ad 6)) rfl dX4_compareRows_75 ?_
        refine lv_iload_n hx hb dX4_compareRows_78 rfl (lv_at hl 2 rfl) ?_
        refine r_iald C h 6 rfl (i := (nI k)) (vp_in_nI (by omega) (by decide)) dX4_compareRows_79 ?_
        refine lv_cgi (y := (sl k)) (nn_at sl (by omega)) ?_
        refine lv_isub hx hb dX4_compareRows_80 ?_
        refine va_mabs hx hb (C.1.1.2.2.1.trans hl.1.symm) C.1.1.2.2.2.1 (C.1.1.2.2.2.2 _ wd4) (C.1.1.2.2.2.2 _ wd5) (C.1.1.2.2.2.2 _ wd6) (C.1.1.2.2.2.2 _ wd7) (Nat.le_trans (m := 1) (Nat.le_of_ble_eq_true rfl) (by show 1 ≤ fr; omega)) (Nat.le_trans (m := 20) (Nat.le_of_ble_eq_true rfl) (by show 20 ≤ lo; omega)) (Nat.le_of_ble_eq_true rfl) (Nat.le_of_ble_eq_true rfl) dX4_compareRows_81 ?_
        refine lv_cgi (y := (aI (bl i - sl k))) (rfl) ?_
        refine lv_aload_n hx hb dX4_compareRows_84 rfl (lv_at hl 0 rfl) ?_
        refine r_get C h 0 rfl (Cn := RX4) (T := TX4) (N := 11) rfl hinX4 8 (by decide) (index := 41) (ref := "ScaleHouse$Pairing") wd10 rfl (v := .int tl) rfl dX4_compareRows_85 ?_
        refine lv_icmp_gt (tgt := 103) hx hb dX4_compareRows_88 (by decide) (fun c_88 => ?_) (fun c_88 => ?_)
        · have eE : ¬ (hAg td tl bd bl sd sl) i k = true := fun z9 => (of_decide_eq_true (Bool.and_eq_true_iff.mp z9).2) c_88
          refine lv_iinc (v := nI (k + 1)) (lv' := [(2, .int (nI (k + 1))), (0, .ref (ad 0)), (1, .int (nI i))]) hx hb dX4_compareRows_103 hl (k := 2) rfl (nI_1 _) (by decide) rfl (fun ls hl => ?_)
          refine lv_goto (tgt := 22) hx hb dX4_compareRows_106 (by decide) ?_
          exact ih (k + 1) _ _ ls (by omega) (by rw [bm, if_neg eE, Nat.add_zero]; exact h) (lv_sub hl [1, 2, 0] rfl)
        · have eE : (hAg td tl bd bl sd sl) i k = true := Bool.and_eq_true_iff.mpr ⟨decide_eq_true c_59, decide_eq_true c_88⟩
          refine lv_aload_n hx hb dX4_compareRows_91 rfl (lv_at hl 0 rfl) ?_
          refine r_get C h 0 rfl (Cn := RX4) (T := TX4) (N := 11) rfl hinX4 4 (by decide) (index := 28) (ref := "ScaleHouse$Pairing") wd11 rfl (v := .ref (ad 9)) rfl dX4_compareRows_92 ?_
          refine lv_iload_n hx hb dX4_compareRows_95 rfl (lv_at hl 1 rfl) ?_
          refine lv_dup2_11 hx hb dX4_compareRows_96 rfl rfl ?_
          refine r_iald C h 9 rfl (i := (nI i)) (vp_in_nI (by omega) (by decide)) dX4_compareRows_97 ?_
          refine lv_cgi (y := (nI (bm ((hAg td tl bd bl sd sl) i) k))) (by rw [nI_clamp (by omega)]; exact pk_us) ?_
          refine lv_iconst (v := 1) hx hb dX4_compareRows_98 (by decide) ?_
          refine lv_iload_n hx hb dX4_compareRows_99 rfl (lv_at hl 2 rfl) ?_
          refine lv_ishl hx hb dX4_compareRows_100 ?_
          refine lv_cgi (y := (nI (2 ^ k))) (sh_1 k (by omega)) ?_
          refine lv_ior hx hb dX4_compareRows_101 ?_
          refine lv_cgi (y := (nI (bm ((hAg td tl bd bl sd sl) i) (k + 1)))) (by rw [bm, if_pos eE, fa_or, Nat.add_comm, show 2 ^ k = 2 ^ k * 1 by omega, Nat.or_comm, Nat.two_pow_add_eq_or_of_lt (bm_lt _ k)]) ?_
          refine r_iast C h 9 rfl (i := (nI i)) (vp_in_nI (by omega) (by decide)) dX4_compareRows_102 (fun H locs h => ?_)
          have h : gS G A s (pW G ad td tl fd st nb ns bd bl sd sl so bo (upd (upd (agR (hAg td tl bd bl sd sl) ns i ag) i (nI (bm ((hAg td tl bd bl sd sl) i) k))) (nI i).toNatClampNeg (nI (bm ((hAg td tl bd bl sd sl) i) (k + 1)))) rf wt) H locs := h
          rw [show (upd (upd (agR (hAg td tl bd bl sd sl) ns i ag) i (nI (bm ((hAg td tl bd bl sd sl) i) k))) (nI i).toNatClampNeg (nI (bm ((hAg td tl bd bl sd sl) i) (k + 1)))) = (upd (agR (hAg td tl bd bl sd sl) ns i ag) i (nI (bm ((hAg td tl bd bl sd sl) i) (k + 1)))) from by rw [nI_clamp (by omega), fa_upd_twice]] at h
          have h : gS G A s (pW G ad td tl fd st nb ns bd bl sd sl so bo (upd (agR (hAg td tl bd bl sd sl) ns i ag) i (nI (bm ((hAg td tl bd bl sd sl) i) (k + 1)))) rf wt) H locs := h
          refine lv_iinc (v := nI (k + 1)) (lv' := [(2, .int (nI (k + 1))), (0, .ref (ad 0)), (1, .int (nI i))]) hx hb dX4_compareRows_103 hl (k := 2) rfl (nI_1 _) (by decide) rfl (fun ls hl => ?_)
          refine lv_goto (tgt := 22) hx hb dX4_compareRows_106 (by decide) ?_
          exact ih (k + 1) _ _ ls (by omega) h (lv_sub hl [1, 2, 0] rfl)

set_option maxHeartbeats 4000000 in
set_option maxRecDepth 100000 in
theorem lp_X4_cmp {p : Program} {l : Launch} {e : Env} {fr lo : Nat} {s : State} {m : MethodId} {args : Array Value} {below : List Frame} {meth : Method} {c : Code} {Q : State → Prop} {G : gG} {A : Nat → Prop} (C : gC p m c cX4_compareRows 3 s args wsX4_compareRows RX4 G A) (ad : Nat → Nat) (td tl fd st : Int32) (nb ns : Nat) (bd bl sd sl : Nat → Int32) (so bo : Nat → Option Nat) (ag : Nat → Int32) (rf : Nat → Option Nat) (wt : Nat → Nat) (hnb : nb ≤ 20) (hns : ns ≤ 20) (hfr : 1 ≤ fr) (hlo : 20 ≤ lo) (kx : ∀ (H : Heap) (locs : List Loc) (ls : Array Slot), gS G A s (pW G ad td tl fd st nb ns bd bl sd sl so bo (agR (hAg td tl bd bl sd sl) ns nb ag) rf wt) H locs → W p l e (gR fr lo 0 0) s m args below meth c H locs 0 0 Q (F0 m 115 ls [])) :
    ∀ (r : Nat) (i : Nat) (H : Heap) (locs : List Loc) (ls : Array Slot), (i + r = nb) →  gS G A s (pW G ad td tl fd st nb ns bd bl sd sl so bo (agR (hAg td tl bd bl sd sl) ns i ag) rf wt) H locs → lv_has ls 3 [(0, .ref (ad 0)), (1, .int (nI i))] → W p l e (gR fr lo 0 0) s m args below meth c H locs 0 0 Q (F0 m 2 ls []) := by
  have hx := C.1.1.1
  have hb := C.1.1.2.1
  have wd0 : Cond.fieldLink RX4 12 "ScaleHouse$Pairing" "buyer" "LScaleHouse$Tally;" ∈ wsX4_compareRows := by decide +kernel
  have hinX4 : ∀ w ∈ wsX40, w ∈ wsX4_compareRows := fun _ h => List.mem_cons_of_mem _ (List.mem_append_left _ (List.mem_append_right _ h))
  have wd1 : Cond.fieldLinkNest RX4 55 "ScaleHouse$Tally" "size" "I" "ScaleHouse" ∈ nW := by decide +kernel
  have hinX7 : ∀ w ∈ wsX70, w ∈ wsX4_compareRows := fun _ h => List.mem_cons_of_mem _ (List.mem_append_right _ h)
  have wd2 : Cond.fieldLink RX4 28 "ScaleHouse$Pairing" "agreeing" "[I" ∈ wsX4_compareRows := by decide +kernel
  intro r
  induction r with
  | zero =>
    intro i H locs ls hi h hl
    refine lv_iload_n hx hb dX4_compareRows_2 rfl (lv_at hl 1 rfl) ?_
    refine lv_aload_n hx hb dX4_compareRows_3 rfl (lv_at hl 0 rfl) ?_
    refine r_get C h 0 rfl (Cn := RX4) (T := TX4) (N := 11) rfl hinX4 0 (by decide) (index := 12) (ref := "ScaleHouse$Pairing") wd0 rfl (v := .ref (ad 1)) rfl dX4_compareRows_4 ?_
    refine r_getN C h 1 rfl (Cn := RX7) (T := TX7) (N := 3) rfl hinX7 2 (by decide) (index := 55) (ref := "ScaleHouse$Tally") wd1 rfl (v := .int (nI nb)) rfl dX4_compareRows_7 ?_
    refine lv_icmp_ge (tgt := 115) hx hb dX4_compareRows_10 (by decide) (fun c_10 => ?_) (fun c_10 => ?_)
    · obtain rfl : i = nb := by omega
      exact kx _ _ ls h
    · exact absurd (by rw [show i = nb by omega]; exact Int32.le_refl _) c_10
  | succ r ih =>
    intro i H locs ls hi h hl
    refine lv_iload_n hx hb dX4_compareRows_2 rfl (lv_at hl 1 rfl) ?_
    refine lv_aload_n hx hb dX4_compareRows_3 rfl (lv_at hl 0 rfl) ?_
    refine r_get C h 0 rfl (Cn := RX4) (T := TX4) (N := 11) rfl hinX4 0 (by decide) (index := 12) (ref := "ScaleHouse$Pairing") wd0 rfl (v := .ref (ad 1)) rfl dX4_compareRows_4 ?_
    refine r_getN C h 1 rfl (Cn := RX7) (T := TX7) (N := 3) rfl hinX7 2 (by decide) (index := 55) (ref := "ScaleHouse$Tally") wd1 rfl (v := .int (nI nb)) rfl dX4_compareRows_7 ?_
    refine lv_icmp_ge (tgt := 115) hx hb dX4_compareRows_10 (by decide) (fun c_10 => ?_) (fun c_10 => ?_)
    · exact absurd c_10 (nI_ge (by omega) (by omega))
    · refine lv_aload_n hx hb dX4_compareRows_13 rfl (lv_at hl 0 rfl) ?_
      refine r_get C h 0 rfl (Cn := RX4) (T := TX4) (N := 11) rfl hinX4 4 (by decide) (index := 28) (ref := "ScaleHouse$Pairing") wd2 rfl (v := .ref (ad 9)) rfl dX4_compareRows_14 ?_
      refine lv_iload_n hx hb dX4_compareRows_17 rfl (lv_at hl 1 rfl) ?_
      refine lv_iconst (v := 0) hx hb dX4_compareRows_18 (by decide) ?_
      refine r_iast C h 9 rfl (i := (nI i)) (vp_in_nI (by omega) (by decide)) dX4_compareRows_19 (fun H locs h => ?_)
      have h : gS G A s (pW G ad td tl fd st nb ns bd bl sd sl so bo (upd (agR (hAg td tl bd bl sd sl) ns i ag) (nI i).toNatClampNeg 0) rf wt) H locs := h
      rw [show (upd (agR (hAg td tl bd bl sd sl) ns i ag) (nI i).toNatClampNeg 0) = (upd (agR (hAg td tl bd bl sd sl) ns i ag) i (nI (bm ((hAg td tl bd bl sd sl) i) 0))) from by rw [nI_clamp (by omega)]; rfl] at h
      have h : gS G A s (pW G ad td tl fd st nb ns bd bl sd sl so bo (upd (agR (hAg td tl bd bl sd sl) ns i ag) i (nI (bm ((hAg td tl bd bl sd sl) i) 0))) rf wt) H locs := h
      refine lv_iconst (v := 0) hx hb dX4_compareRows_20 (by decide) ?_
      refine lv_cgi (y := (nI 0)) (rfl) ?_
      refine lv_istore_n (lv' := [(2, .int (nI 0)), (0, .ref (ad 0)), (1, .int (nI i))]) hx hb dX4_compareRows_21 rfl hl (by decide) rfl (fun ls hl => ?_)
      refine lp_X4_cmp_in C ad td tl fd st nb ns bd bl sd sl so bo ag rf wt hnb hns i (by omega) hfr hlo (fun H locs ls h hl => ?_) ns 0 _ _ ls (Nat.zero_add _) h (lv_sub hl [1, 2, 0] rfl)
      refine lv_iinc (v := nI (i + 1)) (lv' := [(1, .int (nI (i + 1))), (0, .ref (ad 0))]) hx hb dX4_compareRows_109 hl (k := 1) rfl (nI_1 _) (by decide) rfl (fun ls hl => ?_)
      refine lv_goto (tgt := 2) hx hb dX4_compareRows_112 (by decide) ?_
      exact ih (i + 1) _ _ ls (by omega) h (lv_sub hl [1, 0] rfl)

set_option maxHeartbeats 4000000 in
set_option maxRecDepth 100000 in
theorem p_compareRows (l : Launch) (G : gG) (ad : Nat → Nat) (td tl fd st : Int32) (nb ns : Nat) (bd bl sd sl : Nat → Int32) (so bo : Nat → Option Nat) (ag : Nat → Int32) (rf : Nat → Option Nat) (wt : Nat → Nat) (hnb : nb ≤ 20) (hns : ns ≤ 20) : cM l yX4_compareRows wsX4_compareRows 1 40 (0) (0) G [.ref (ad 0)] (pW G ad td tl fd st nb ns bd bl sd sl so bo ag rf wt) (qV G (S := Unit) (fun _ => True) (fun _ => pW G ad td tl fd st nb ns bd bl sd sl so bo (agR (hAg td tl bd bl sd sl) ns nb ag) rf wt)) := by
  refine o_M (cc := cX4_compareRows) (maxL := 3) (ret := none) (own := RX4) (by decide +kernel) rfl rfl (Nat.le_of_ble_eq_true rfl) ?_
  intro p e s m below meth c A ls H locs hA C h hr hlk hnm hl
  have hx := C.1.1.1
  have hb := C.1.1.2.1
  have hl : lv_has ls 3 [(0, .ref (ad 0))] := hl
  refine lv_iconst (v := 0) hx hb dX4_compareRows_0 (by decide) ?_
  refine lv_cgi (y := (nI 0)) (rfl) ?_
  refine lv_istore_n (lv' := [(1, .int (nI 0)), (0, .ref (ad 0))]) hx hb dX4_compareRows_1 rfl hl (by decide) rfl (fun ls hl => ?_)
  refine lp_X4_cmp C ad td tl fd st nb ns bd bl sd sl so bo ag rf wt hnb hns (by decide) (by decide) (fun H locs ls h => ?_) nb 0 _ _ ls (Nat.zero_add _) (by rw [agR_0]; exact h) (lv_sub hl [1, 0] rfl)
  exact r_vret C h hr hlk (Nat.zero_le _) (Nat.zero_le _) () trivial rfl dX4_compareRows_115

theorem zo_0 {x : Option Nat} (h : (if x = none then (0 : Int32) else 1) = 0) : x = none := by
  cases x with
  | none => rfl
  | some y => exact absurd h (by rw [if_neg (by simp)]; decide)
theorem zo_1 {x : Option Nat} (h : ¬ (if x = none then (0 : Int32) else 1) = 0) : ∃ y, x = some y := by
  cases x with
  | none => exact absurd rfl h
  | some y => exact ⟨y, rfl⟩
theorem kept_0 (bo : Nat → Option Nat) (b : Nat) : pKept bo b 0 = false := by
  cases h : pKept bo b 0 with
  | false => rfl
  | true => obtain ⟨x, _, z⟩ := pKept_iff.mp h; omega
theorem Rf_0 (bo : Nat → Option Nat) : pRf bo 0 = bo := by
  funext b
  unfold pRf
  rw [kept_0, if_neg (by decide)]

set_option maxHeartbeats 4000000 in
set_option maxRecDepth 100000 in
theorem lp_X4_find {p : Program} {l : Launch} {e : Env} {s : State} {m : MethodId} {args : Array Value} {below : List Frame} {meth : Method} {c : Code} {Q : State → Prop} {G : gG} {A : Nat → Prop} (C : gC p m c cX4_findAsManyAsCanBe 1 s args wsX4_findAsManyAsCanBe RX4 G A) (ad : Nat → Nat) (td tl fd st : Int32) (nb ns : Nat) (bd bl sd sl : Nat → Int32) (ag : Nat → Int32) (hnb : nb ≤ 20) (hns : ns ≤ 20) (kx : ∀ (u : (Nat → Option Nat) × (Nat → Option Nat) × (Nat → Option Nat) × (Nat → Nat)) (H : Heap) (locs : List Loc) (ls : Array Slot), pJ ag nb ns 0 u.1 u.2.1 → gS G A s (pW G ad td tl (nI (sz ns u.2.1)) st nb ns bd bl sd sl u.1 u.2.1 ag u.2.2.1 u.2.2.2) H locs → W p l e (gR 3 100 0 0) s m args below meth c H locs 0 0 Q (F0 m 51 ls [])) :
    ∀ (r : Nat) (f : Nat) (so bo rf : Nat → Option Nat) (wt : Nat → Nat) (H : Heap) (locs : List Loc) (ls : Array Slot), (f + r = 20) → (pM nb ns so bo) → (pEV ag so) → (sz ns bo = f) →  gS G A s (pW G ad td tl (nI f) st nb ns bd bl sd sl so bo ag rf wt) H locs → lv_has ls 1 [(0, .ref (ad 0))] → W p l e (gR 3 100 0 0) s m args below meth c H locs 0 0 Q (F0 m 21 ls []) := by
  have hx := C.1.1.1
  have hb := C.1.1.2.1
  have wd0 : Cond.fieldLink RX4 44 "ScaleHouse$Pairing" "found" "I" ∈ wsX4_findAsManyAsCanBe := by decide +kernel
  have hinX4 : ∀ w ∈ wsX40, w ∈ wsX4_findAsManyAsCanBe := fun _ h => List.mem_cons_of_mem _ (List.mem_append_left _ (List.mem_append_right _ h))
  intro r
  induction r with
  | zero =>
    intro f so bo rf wt H locs ls hi hM hE9 hsz h hl
    refine lv_aload_n hx hb dX4_findAsManyAsCanBe_21 rfl (lv_at hl 0 rfl) ?_
    refine r_get C h 0 rfl (Cn := RX4) (T := TX4) (N := 11) rfl hinX4 9 (by decide) (index := 44) (ref := "ScaleHouse$Pairing") wd0 rfl (v := .int (nI f)) rfl dX4_findAsManyAsCanBe_22 ?_
    refine lv_bipush (v := 20) hx hb dX4_findAsManyAsCanBe_25 (by decide) ?_
    refine lv_icmp_ge (tgt := 51) hx hb dX4_findAsManyAsCanBe_27 (by decide) (fun c_27 => ?_) (fun c_27 => ?_)
    · exact kx (so, bo, rf, wt) _ _ ls ⟨hM, hE9, ⟨⟨_, pRf_v hns hnb hM hE9, rfl⟩, fun g _ => by rw [Rf_0, hsz]; exact Nat.le_trans (sz_le ns g) (by omega)⟩⟩ (by rw [hsz]; exact h)
    · exact absurd (by rw [show f = 20 by omega]; decide) c_27
  | succ r ih =>
    intro f so bo rf wt H locs ls hi hM hE9 hsz h hl
    refine lv_aload_n hx hb dX4_findAsManyAsCanBe_21 rfl (lv_at hl 0 rfl) ?_
    refine r_get C h 0 rfl (Cn := RX4) (T := TX4) (N := 11) rfl hinX4 9 (by decide) (index := 44) (ref := "ScaleHouse$Pairing") wd0 rfl (v := .int (nI f)) rfl dX4_findAsManyAsCanBe_22 ?_
    refine lv_bipush (v := 20) hx hb dX4_findAsManyAsCanBe_25 (by decide) ?_
    refine lv_icmp_ge (tgt := 51) hx hb dX4_findAsManyAsCanBe_27 (by decide) (fun c_27 => ?_) (fun c_27 => ?_)
    · exact absurd c_27 (nI_ge (b := 20) (by omega) (by decide))
    · refine lv_aload_n hx hb dX4_findAsManyAsCanBe_30 rfl (lv_at hl 0 rfl) ?_
      refine lv_iconst (v := 0) hx hb dX4_findAsManyAsCanBe_31 (by decide) ?_
      refine lv_cgi (y := (nI 0)) (rfl) ?_
      have hp : List.Perm (pW G ad td tl (nI f) st nb ns bd bl sd sl so bo ag rf wt : va_W) ([((ad 0), .inr (4, [.ref (ad 1), .ref (ad 4), .ref (ad 7), .ref (ad 8), .ref (ad 9), .ref (ad 10), .ref (ad 11), .int td, .int tl, .int (nI f), .int st])), ((ad 1), .inr (7, [.ref (ad 2), .ref (ad 3), .int (nI nb)])), ((ad 2), .inl (G.2.2 1, 20, .inl bd)), ((ad 3), .inl (G.2.2 1, 20, .inl bl)), ((ad 4), .inr (7, [.ref (ad 5), .ref (ad 6), .int (nI ns)])), ((ad 5), .inl (G.2.2 1, 20, .inl sd)), ((ad 6), .inl (G.2.2 1, 20, .inl sl)), ((ad 7), .inl (G.2.2 1, 20, .inl (oF so))), ((ad 8), .inl (G.2.2 1, 20, .inl (oF bo))), ((ad 9), .inl (G.2.2 1, 20, .inl ag)), ((ad 10), .inl (G.2.2 1, 20, .inl (oF rf))), ((ad 11), .inl (G.2.2 1, 20, .inl (nF wt)))] ++ []) := pm 12 rfl [0, 1, 2, 3, 4, 5, 6, 7, 8, 9, 10, 11] (by decide +kernel) rfl
      refine k_i C h hp (r_runV C h hp 0 rfl rfl (As := [.int (nI 0)]) (rest := []) (p_pairOneMore l G ad td tl (nI f) st nb ns bd bl sd sl so bo ag rf wt 0 hnb hns (Nat.zero_le _) (hM)) (cwV 1 C.1.1.2.2.2.2 gX4_findAsManyAsCanBe_X4_pairOneMore rfl rfl rfl (by decide +kernel) ⟨by simp only [gR]; omega, by simp only [gR]; omega⟩) rfl hl.1 (Nat.le_of_ble_eq_true rfl) dX4_findAsManyAsCanBe_32 ⟨Nat.le_of_ble_eq_true rfl, Nat.le_of_ble_eq_true rfl⟩) (fun r_1 u_2 H locs hw_3 h => ?_)
      subst hw_3
      have hS9 : ∀ e9, (pmS so bo ag nb ns 0 rf wt).1 = some e9 → _ := fun e9 hz9 => pm_some hns hnb (Nat.zero_le _) (hM) hE9 hz9
      have hN9 : (pmS so bo ag nb ns 0 rf wt).1 = none → _ := fun hz9 => pm_none hns hnb (Nat.zero_le _) (hM) hE9 hz9
      generalize ez9 : (pmS so bo ag nb ns 0 rf wt) = z9 at h hS9 hN9 ⊢
      have h : gS G A s (pW G ad td tl (nI f) st nb ns bd bl sd sl ((pmR so bo z9).1) ((pmR so bo z9).2) ag z9.2.1 z9.2.2.1) H locs := h
      refine W.widen (k := 0) (n := 0) (Nat.le_of_ble_eq_true rfl) (Nat.le_of_ble_eq_true rfl) ?_
      refine lv_if_eq (tgt := 51) hx hb dX4_findAsManyAsCanBe_35 (by decide) (fun c_35 => ?_) (fun c_35 => ?_)
      · have e35 := zo_0 c_35
        have eR : pmR so bo z9 = (so, bo) := by unfold pmR; rw [if_pos e35]
        rw [eR] at h
        exact kx (so, bo, z9.2.1, z9.2.2.1) _ _ ls ⟨hM, hE9, hN9 e35⟩ (by rw [hsz]; exact h)
      · refine lv_aload_n hx hb dX4_findAsManyAsCanBe_38 rfl (lv_at hl 0 rfl) ?_
        refine lv_dup hx hb dX4_findAsManyAsCanBe_39 rfl ?_
        refine r_get C h 0 rfl (Cn := RX4) (T := TX4) (N := 11) rfl hinX4 9 (by decide) (index := 44) (ref := "ScaleHouse$Pairing") wd0 rfl (v := .int (nI f)) rfl dX4_findAsManyAsCanBe_40 ?_
        refine lv_iconst (v := 1) hx hb dX4_findAsManyAsCanBe_43 (by decide) ?_
        refine lv_iadd hx hb dX4_findAsManyAsCanBe_44 ?_
        refine lv_cgi (y := (nI (f + 1))) (nI_1 f) ?_
        refine r_put C h 0 rfl (Cn := RX4) (T := TX4) (N := 11) rfl hinX4 tyX4 tyX4_ok nmX4 9 (by decide) (index := 44) (ref := "ScaleHouse$Pairing") wd0 rfl rfl (v := .int (nI (f + 1))) rfl rfl (show 9 < 11 by decide) dX4_findAsManyAsCanBe_45 (fun H locs h => ?_)
        have h : gS G A s (pW G ad td tl (nI (f + 1)) st nb ns bd bl sd sl ((pmR so bo z9).1) ((pmR so bo z9).2) ag z9.2.1 z9.2.2.1) H locs := h
        refine lv_goto (tgt := 21) hx hb dX4_findAsManyAsCanBe_48 (by decide) ?_
        obtain ⟨e9, hz9⟩ := zo_1 c_35
        obtain ⟨q1, q2, q3, q4⟩ := hS9 e9 hz9
        exact ih (f + 1) _ _ _ _ _ _ ls (by omega) q1 q2 (by rw [q4, hsz]) h (lv_sub hl [0] rfl)

theorem cn_none (ns : Nat) (hns : ns ≤ 20) (bo : Nat → Option Nat) : sz ns (fun j => if j < 20 then none else bo j) = 0 := by
  rcases Nat.eq_zero_or_pos (sz ns (fun j => if j < 20 then none else bo j)) with w | w
  · exact w
  · obtain ⟨b, hb, z⟩ := cn_pos ns w
    have z : (if b < 20 then none else bo b).isSome = true := z
    rw [if_pos (by omega)] at z
    exact ft z

set_option maxHeartbeats 4000000 in
set_option maxRecDepth 100000 in
theorem p_find (l : Launch) (G : gG) (ad : Nat → Nat) (td tl fd st : Int32) (nb ns : Nat) (bd bl sd sl : Nat → Int32) (so bo : Nat → Option Nat) (ag : Nat → Int32) (rf : Nat → Option Nat) (wt : Nat → Nat) (hnb : nb ≤ 20) (hns : ns ≤ 20) : cM l yX4_findAsManyAsCanBe wsX4_findAsManyAsCanBe 3 100 (0) (0) G [.ref (ad 0)] (pW G ad td tl fd st nb ns bd bl sd sl so bo ag rf wt) (qV G (S := (Nat → Option Nat) × (Nat → Option Nat) × (Nat → Option Nat) × (Nat → Nat)) (fun u => pJ ag nb ns 0 u.1 u.2.1) (fun u => pW G ad td tl (nI (sz ns u.2.1)) st nb ns bd bl sd sl u.1 u.2.1 ag u.2.2.1 u.2.2.2)) := by
  refine o_M (cc := cX4_findAsManyAsCanBe) (maxL := 1) (ret := none) (own := RX4) (by decide +kernel) rfl rfl (Nat.le_of_ble_eq_true rfl) ?_
  intro p e s m below meth c A ls H locs hA C h hr hlk hnm hl
  have hx := C.1.1.1
  have hb := C.1.1.2.1
  have hl : lv_has ls 1 [(0, .ref (ad 0))] := hl
  have wd0 : Cond.fieldLink RX4 21 "ScaleHouse$Pairing" "sellerOf" "[I" ∈ wsX4_findAsManyAsCanBe := by decide +kernel
  have hinX4 : ∀ w ∈ wsX40, w ∈ wsX4_findAsManyAsCanBe := fun _ h => List.mem_cons_of_mem _ (List.mem_append_left _ (List.mem_append_right _ h))
  have wd1 : Cond.fieldLink RX4 25 "ScaleHouse$Pairing" "buyerOf" "[I" ∈ wsX4_findAsManyAsCanBe := by decide +kernel
  have wd2 : Cond.fieldLink RX4 44 "ScaleHouse$Pairing" "found" "I" ∈ wsX4_findAsManyAsCanBe := by decide +kernel
  refine lv_aload_n hx hb dX4_findAsManyAsCanBe_0 rfl (lv_at hl 0 rfl) ?_
  refine r_get C h 0 rfl (Cn := RX4) (T := TX4) (N := 11) rfl hinX4 2 (by decide) (index := 21) (ref := "ScaleHouse$Pairing") wd0 rfl (v := .ref (ad 7)) rfl dX4_findAsManyAsCanBe_1 ?_
  refine lv_iconst (v := -1) hx hb dX4_findAsManyAsCanBe_4 (by decide) ?_
  have hp : List.Perm (pW G ad td tl fd st nb ns bd bl sd sl so bo ag rf wt : va_W) ([((ad 7), .inl (G.2.2 1, 20, .inl (oF so)))] ++ [((ad 0), .inr (4, [.ref (ad 1), .ref (ad 4), .ref (ad 7), .ref (ad 8), .ref (ad 9), .ref (ad 10), .ref (ad 11), .int td, .int tl, .int fd, .int st])), ((ad 1), .inr (7, [.ref (ad 2), .ref (ad 3), .int (nI nb)])), ((ad 2), .inl (G.2.2 1, 20, .inl bd)), ((ad 3), .inl (G.2.2 1, 20, .inl bl)), ((ad 4), .inr (7, [.ref (ad 5), .ref (ad 6), .int (nI ns)])), ((ad 5), .inl (G.2.2 1, 20, .inl sd)), ((ad 6), .inl (G.2.2 1, 20, .inl sl)), ((ad 8), .inl (G.2.2 1, 20, .inl (oF bo))), ((ad 9), .inl (G.2.2 1, 20, .inl ag)), ((ad 10), .inl (G.2.2 1, 20, .inl (oF rf))), ((ad 11), .inl (G.2.2 1, 20, .inl (nF wt)))]) := pm 12 rfl [7, 0, 1, 2, 3, 4, 5, 6, 8, 9, 10, 11] (by decide +kernel) rfl
  refine k_v C h hp (r_runS C h hp (As := [.ref (ad 7), .int (-1)]) (rest := []) (j_fill l G (ad 7) 20 (oF so) (-1) (by decide)) (va_cwS 2 C.1.1.2.2.2.2 gX4_findAsManyAsCanBe_J7_fill_53178 rfl rfl rfl (by decide +kernel) ⟨Nat.le_of_ble_eq_true rfl, Nat.le_of_ble_eq_true rfl⟩) rfl hl.1 (Nat.le_of_ble_eq_true rfl) dX4_findAsManyAsCanBe_5 ⟨Nat.le_of_ble_eq_true rfl, Nat.le_of_ble_eq_true rfl⟩) (fun u_2 H locs hw_3 h => ?_)
  rw [oF_fl] at h
  have h : gS G A s ([((ad 7), .inl (G.2.2 1, 20, .inl (oF (fun j => if j < 20 then none else so j))))] ++ [((ad 0), .inr (4, [.ref (ad 1), .ref (ad 4), .ref (ad 7), .ref (ad 8), .ref (ad 9), .ref (ad 10), .ref (ad 11), .int td, .int tl, .int fd, .int st])), ((ad 1), .inr (7, [.ref (ad 2), .ref (ad 3), .int (nI nb)])), ((ad 2), .inl (G.2.2 1, 20, .inl bd)), ((ad 3), .inl (G.2.2 1, 20, .inl bl)), ((ad 4), .inr (7, [.ref (ad 5), .ref (ad 6), .int (nI ns)])), ((ad 5), .inl (G.2.2 1, 20, .inl sd)), ((ad 6), .inl (G.2.2 1, 20, .inl sl)), ((ad 8), .inl (G.2.2 1, 20, .inl (oF bo))), ((ad 9), .inl (G.2.2 1, 20, .inl ag)), ((ad 10), .inl (G.2.2 1, 20, .inl (oF rf))), ((ad 11), .inl (G.2.2 1, 20, .inl (nF wt)))]) H locs := h
  have h := gS.perm h (pm 12 rfl [1, 2, 3, 4, 5, 6, 7, 0, 8, 9, 10, 11] (by decide +kernel) rfl : List.Perm ([((ad 7), .inl (G.2.2 1, 20, .inl (oF (fun j => if j < 20 then none else so j))))] ++ [((ad 0), .inr (4, [.ref (ad 1), .ref (ad 4), .ref (ad 7), .ref (ad 8), .ref (ad 9), .ref (ad 10), .ref (ad 11), .int td, .int tl, .int fd, .int st])), ((ad 1), .inr (7, [.ref (ad 2), .ref (ad 3), .int (nI nb)])), ((ad 2), .inl (G.2.2 1, 20, .inl bd)), ((ad 3), .inl (G.2.2 1, 20, .inl bl)), ((ad 4), .inr (7, [.ref (ad 5), .ref (ad 6), .int (nI ns)])), ((ad 5), .inl (G.2.2 1, 20, .inl sd)), ((ad 6), .inl (G.2.2 1, 20, .inl sl)), ((ad 8), .inl (G.2.2 1, 20, .inl (oF bo))), ((ad 9), .inl (G.2.2 1, 20, .inl ag)), ((ad 10), .inl (G.2.2 1, 20, .inl (oF rf))), ((ad 11), .inl (G.2.2 1, 20, .inl (nF wt)))] : va_W) (pW G ad td tl fd st nb ns bd bl sd sl (fun j => if j < 20 then none else so j) bo ag rf wt))
  have h : gS G A s (pW G ad td tl fd st nb ns bd bl sd sl (fun j => if j < 20 then none else so j) bo ag rf wt) H locs := h
  refine W.widen (k := 0) (n := 0) (Nat.le_of_ble_eq_true rfl) (Nat.le_of_ble_eq_true rfl) ?_
  refine lv_aload_n hx hb dX4_findAsManyAsCanBe_8 rfl (lv_at hl 0 rfl) ?_
  refine r_get C h 0 rfl (Cn := RX4) (T := TX4) (N := 11) rfl hinX4 3 (by decide) (index := 25) (ref := "ScaleHouse$Pairing") wd1 rfl (v := .ref (ad 8)) rfl dX4_findAsManyAsCanBe_9 ?_
  refine lv_iconst (v := -1) hx hb dX4_findAsManyAsCanBe_12 (by decide) ?_
  have hp : List.Perm (pW G ad td tl fd st nb ns bd bl sd sl (fun j => if j < 20 then none else so j) bo ag rf wt : va_W) ([((ad 8), .inl (G.2.2 1, 20, .inl (oF bo)))] ++ [((ad 0), .inr (4, [.ref (ad 1), .ref (ad 4), .ref (ad 7), .ref (ad 8), .ref (ad 9), .ref (ad 10), .ref (ad 11), .int td, .int tl, .int fd, .int st])), ((ad 1), .inr (7, [.ref (ad 2), .ref (ad 3), .int (nI nb)])), ((ad 2), .inl (G.2.2 1, 20, .inl bd)), ((ad 3), .inl (G.2.2 1, 20, .inl bl)), ((ad 4), .inr (7, [.ref (ad 5), .ref (ad 6), .int (nI ns)])), ((ad 5), .inl (G.2.2 1, 20, .inl sd)), ((ad 6), .inl (G.2.2 1, 20, .inl sl)), ((ad 7), .inl (G.2.2 1, 20, .inl (oF (fun j => if j < 20 then none else so j)))), ((ad 9), .inl (G.2.2 1, 20, .inl ag)), ((ad 10), .inl (G.2.2 1, 20, .inl (oF rf))), ((ad 11), .inl (G.2.2 1, 20, .inl (nF wt)))]) := pm 12 rfl [8, 0, 1, 2, 3, 4, 5, 6, 7, 9, 10, 11] (by decide +kernel) rfl
  refine k_v C h hp (r_runS C h hp (As := [.ref (ad 8), .int (-1)]) (rest := []) (j_fill l G (ad 8) 20 (oF bo) (-1) (by decide)) (va_cwS 2 C.1.1.2.2.2.2 gX4_findAsManyAsCanBe_J7_fill_53178 rfl rfl rfl (by decide +kernel) ⟨Nat.le_of_ble_eq_true rfl, Nat.le_of_ble_eq_true rfl⟩) rfl hl.1 (Nat.le_of_ble_eq_true rfl) dX4_findAsManyAsCanBe_13 ⟨Nat.le_of_ble_eq_true rfl, Nat.le_of_ble_eq_true rfl⟩) (fun u_5 H locs hw_6 h => ?_)
  rw [oF_fl] at h
  have h : gS G A s ([((ad 8), .inl (G.2.2 1, 20, .inl (oF (fun j => if j < 20 then none else bo j))))] ++ [((ad 0), .inr (4, [.ref (ad 1), .ref (ad 4), .ref (ad 7), .ref (ad 8), .ref (ad 9), .ref (ad 10), .ref (ad 11), .int td, .int tl, .int fd, .int st])), ((ad 1), .inr (7, [.ref (ad 2), .ref (ad 3), .int (nI nb)])), ((ad 2), .inl (G.2.2 1, 20, .inl bd)), ((ad 3), .inl (G.2.2 1, 20, .inl bl)), ((ad 4), .inr (7, [.ref (ad 5), .ref (ad 6), .int (nI ns)])), ((ad 5), .inl (G.2.2 1, 20, .inl sd)), ((ad 6), .inl (G.2.2 1, 20, .inl sl)), ((ad 7), .inl (G.2.2 1, 20, .inl (oF (fun j => if j < 20 then none else so j)))), ((ad 9), .inl (G.2.2 1, 20, .inl ag)), ((ad 10), .inl (G.2.2 1, 20, .inl (oF rf))), ((ad 11), .inl (G.2.2 1, 20, .inl (nF wt)))]) H locs := h
  have h := gS.perm h (pm 12 rfl [1, 2, 3, 4, 5, 6, 7, 8, 0, 9, 10, 11] (by decide +kernel) rfl : List.Perm ([((ad 8), .inl (G.2.2 1, 20, .inl (oF (fun j => if j < 20 then none else bo j))))] ++ [((ad 0), .inr (4, [.ref (ad 1), .ref (ad 4), .ref (ad 7), .ref (ad 8), .ref (ad 9), .ref (ad 10), .ref (ad 11), .int td, .int tl, .int fd, .int st])), ((ad 1), .inr (7, [.ref (ad 2), .ref (ad 3), .int (nI nb)])), ((ad 2), .inl (G.2.2 1, 20, .inl bd)), ((ad 3), .inl (G.2.2 1, 20, .inl bl)), ((ad 4), .inr (7, [.ref (ad 5), .ref (ad 6), .int (nI ns)])), ((ad 5), .inl (G.2.2 1, 20, .inl sd)), ((ad 6), .inl (G.2.2 1, 20, .inl sl)), ((ad 7), .inl (G.2.2 1, 20, .inl (oF (fun j => if j < 20 then none else so j)))), ((ad 9), .inl (G.2.2 1, 20, .inl ag)), ((ad 10), .inl (G.2.2 1, 20, .inl (oF rf))), ((ad 11), .inl (G.2.2 1, 20, .inl (nF wt)))] : va_W) (pW G ad td tl fd st nb ns bd bl sd sl (fun j => if j < 20 then none else so j) (fun j => if j < 20 then none else bo j) ag rf wt))
  have h : gS G A s (pW G ad td tl fd st nb ns bd bl sd sl (fun j => if j < 20 then none else so j) (fun j => if j < 20 then none else bo j) ag rf wt) H locs := h
  refine W.widen (k := 0) (n := 0) (Nat.le_of_ble_eq_true rfl) (Nat.le_of_ble_eq_true rfl) ?_
  refine lv_aload_n hx hb dX4_findAsManyAsCanBe_16 rfl (lv_at hl 0 rfl) ?_
  refine lv_iconst (v := 0) hx hb dX4_findAsManyAsCanBe_17 (by decide) ?_
  refine lv_cgi (y := (nI 0)) (rfl) ?_
  refine r_put C h 0 rfl (Cn := RX4) (T := TX4) (N := 11) rfl hinX4 tyX4 tyX4_ok nmX4 9 (by decide) (index := 44) (ref := "ScaleHouse$Pairing") wd2 rfl rfl (v := .int (nI 0)) rfl rfl (show 9 < 11 by decide) dX4_findAsManyAsCanBe_18 (fun H locs h => ?_)
  have h : gS G A s (pW G ad td tl (nI 0) st nb ns bd bl sd sl (fun j => if j < 20 then none else so j) (fun j => if j < 20 then none else bo j) ag rf wt) H locs := h
  refine lp_X4_find C ad td tl fd st nb ns bd bl sd sl ag hnb hns (fun u H locs ls hJ h => ?_) 20 0 (fun j => if j < 20 then none else so j) (fun j => if j < 20 then none else bo j) rf wt _ _ ls rfl ⟨fun q b hq e => (by have e : (if q < 20 then none else bo q) = some b := e; rw [if_pos hq] at e; cases e), fun q b hq e => (by have e : (if q < 20 then none else so q) = some b := e; rw [if_pos hq] at e; cases e)⟩ (fun q b hq e => (by have e : (if q < 20 then none else so q) = some b := e; rw [if_pos hq] at e; cases e)) (cn_none ns hns bo) h (lv_sub hl [0] rfl)
  exact r_vret C h hr hlk (Nat.zero_le _) (Nat.zero_le _) u hJ rfl dX4_findAsManyAsCanBe_51

theorem oI_eq {x : Option Nat} {k : Nat} (h : oI x = nI k) (hx : ∀ j, x = some j → j < 2 ^ 31) (hk : k < 2 ^ 31) : x = some k := by
  cases x with
  | none => exact absurd h.symm (nI_ne_m1 hk)
  | some j => rw [nI_inj2 h (hx j rfl) hk]

set_option maxHeartbeats 4000000 in
set_option maxRecDepth 100000 in
theorem p_moveTo (l : Launch) (G : gG) (ad : Nat → Nat) (td tl fd st : Int32) (nb ns : Nat) (bd bl sd sl : Nat → Int32) (so bo : Nat → Option Nat) (ag : Nat → Int32) (rf : Nat → Option Nat) (wt : Nat → Nat) (hnb : nb ≤ 20) (hns : ns ≤ 20) (row other : Nat) (hrow : row < nb) (hot : other < ns) (hJ : pJ ag nb ns row so bo) (hE : pE ag row other = true) (hkp : pKept bo other row = false) : cM l yX4_moveTo wsX4_moveTo 3 100 (0) (0) G [.ref (ad 0), .int (nI row), .int (nI other)] (pW G ad td tl fd st nb ns bd bl sd sl so bo ag rf wt) (qI G (S := (Nat → Option Nat) × (Nat → Option Nat) × (Nat → Option Nat) × (Nat → Nat)) (fun r u => (r = 1 ∧ pJ ag nb ns (row + 1) u.1 u.2.1 ∧ (∀ q, q < row → u.1 q = so q) ∧ u.1 row = some other ∧ sz ns u.2.1 = sz ns bo ∧ pCd ag nb ns row other bo) ∨ (r = 0 ∧ u.1 = so ∧ u.2.1 = bo ∧ ¬ pCd ag nb ns row other bo)) (fun u => pW G ad td tl fd st nb ns bd bl sd sl u.1 u.2.1 ag u.2.2.1 u.2.2.2)) := by
  refine o_M (cc := cX4_moveTo) (maxL := 5) (ret := (some .boolean)) (own := RX4) (by decide +kernel) rfl rfl (Nat.le_of_ble_eq_true rfl) ?_
  intro p e s m below meth c A ls H locs hA C h hr hlk hnm hl
  have hx := C.1.1.1
  have hb := C.1.1.2.1
  have hl : lv_has ls 5 [(0, .ref (ad 0)), (1, .int (nI row)), (2, .int (nI other))] := hl
  have wd0 : Cond.fieldLink RX4 21 "ScaleHouse$Pairing" "sellerOf" "[I" ∈ wsX4_moveTo := by decide +kernel
  have hinX4 : ∀ w ∈ wsX40, w ∈ wsX4_moveTo := fun _ h => List.mem_cons_of_mem _ (List.mem_append_left _ (List.mem_append_right _ h))
  have wd1 : Cond.fieldLink RX4 25 "ScaleHouse$Pairing" "buyerOf" "[I" ∈ wsX4_moveTo := by decide +kernel
  have hM := hJ.1
  have hEV := hJ.2.1
  refine lv_aload_n hx hb dX4_moveTo_0 rfl (lv_at hl 0 rfl) ?_
  refine r_get C h 0 rfl (Cn := RX4) (T := TX4) (N := 11) rfl hinX4 2 (by decide) (index := 21) (ref := "ScaleHouse$Pairing") wd0 rfl (v := .ref (ad 7)) rfl dX4_moveTo_1 ?_
  refine lv_iload_n hx hb dX4_moveTo_4 rfl (lv_at hl 1 rfl) ?_
  refine r_iald C h 7 rfl (i := (nI row)) (vp_in_nI (by omega) (by decide)) dX4_moveTo_5 ?_
  refine lv_cgi (y := (oI (so row))) (nn_at (oF so) (by omega)) ?_
  refine lv_istore_n (lv' := [(3, .int (oI (so row))), (0, .ref (ad 0)), (1, .int (nI row)), (2, .int (nI other))]) hx hb dX4_moveTo_6 rfl hl (by decide) rfl (fun ls hl => ?_)
  refine lv_aload_n hx hb dX4_moveTo_7 rfl (lv_at hl 1 rfl) ?_
  refine r_get C h 0 rfl (Cn := RX4) (T := TX4) (N := 11) rfl hinX4 3 (by decide) (index := 25) (ref := "ScaleHouse$Pairing") wd1 rfl (v := .ref (ad 8)) rfl dX4_moveTo_8 ?_
  refine lv_iload_n hx hb dX4_moveTo_11 rfl (lv_at hl 3 rfl) ?_
  refine r_iald C h 8 rfl (i := (nI other)) (vp_in_nI (by omega) (by decide)) dX4_moveTo_12 ?_
  refine lv_cgi (y := (oI (bo other))) (nn_at (oF bo) (by omega)) ?_
  refine lv_istore (lv' := [(4, .int (oI (bo other))), (3, .int (oI (so row))), (0, .ref (ad 0)), (1, .int (nI row)), (2, .int (nI other))]) hx hb dX4_moveTo_13 hl (by decide) rfl (fun ls hl => ?_)
  refine lv_iload_n hx hb dX4_moveTo_15 rfl (lv_at hl 1 rfl) ?_
  refine lv_iload_n hx hb dX4_moveTo_16 rfl (lv_at hl 4 rfl) ?_
  refine lv_icmp_ne (tgt := 22) hx hb dX4_moveTo_17 (by decide) (fun c_17 => ?_) (fun c_17 => ?_)
  · have e17 : ¬ so row = some other := fun z9 => c_17 (by rw [z9]; rfl)
    refine lv_iload_n hx hb dX4_moveTo_22 rfl (lv_at hl 1 rfl) ?_
    refine lv_iconst (v := -1) hx hb dX4_moveTo_23 (by decide) ?_
    refine lv_icmp_eq (tgt := 34) hx hb dX4_moveTo_24 (by decide) (fun c_24 => ?_) (fun c_24 => ?_)
    · have e24 : so row = none := (oI_m1 (fun k z => by have := (hM.2 row k (by omega) z).2.1; omega)).mp c_24
      refine lv_iload hx hb dX4_moveTo_34 (lv_at hl 0 rfl) ?_
      refine lv_iconst (v := -1) hx hb dX4_moveTo_36 (by decide) ?_
      refine lv_icmp_eq (tgt := 48) hx hb dX4_moveTo_37 (by decide) (fun c_37 => ?_) (fun c_37 => ?_)
      · have e37 : bo other = none := (oI_m1 (fun k z => by have := (hM.1 other k (by omega) z).1; omega)).mp c_37
        refine lv_aload_n hx hb dX4_moveTo_48 rfl (lv_at hl 2 rfl) ?_
        refine lv_iload_n hx hb dX4_moveTo_49 rfl (lv_at hl 3 rfl) ?_
        refine lv_iload_n hx hb dX4_moveTo_50 rfl (lv_at hl 4 rfl) ?_
        have hp : List.Perm (pW G ad td tl fd st nb ns bd bl sd sl so bo ag rf wt : va_W) ([((ad 0), .inr (4, [.ref (ad 1), .ref (ad 4), .ref (ad 7), .ref (ad 8), .ref (ad 9), .ref (ad 10), .ref (ad 11), .int td, .int tl, .int fd, .int st])), ((ad 1), .inr (7, [.ref (ad 2), .ref (ad 3), .int (nI nb)])), ((ad 2), .inl (G.2.2 1, 20, .inl bd)), ((ad 3), .inl (G.2.2 1, 20, .inl bl)), ((ad 4), .inr (7, [.ref (ad 5), .ref (ad 6), .int (nI ns)])), ((ad 5), .inl (G.2.2 1, 20, .inl sd)), ((ad 6), .inl (G.2.2 1, 20, .inl sl)), ((ad 7), .inl (G.2.2 1, 20, .inl (oF so))), ((ad 8), .inl (G.2.2 1, 20, .inl (oF bo))), ((ad 9), .inl (G.2.2 1, 20, .inl ag)), ((ad 10), .inl (G.2.2 1, 20, .inl (oF rf))), ((ad 11), .inl (G.2.2 1, 20, .inl (nF wt)))] ++ []) := pm 12 rfl [0, 1, 2, 3, 4, 5, 6, 7, 8, 9, 10, 11] (by decide +kernel) rfl
        refine k_v C h hp (r_runV C h hp 0 rfl rfl (As := [.int (nI row), .int (nI other)]) (rest := []) (p_join l G ad td tl fd st nb ns bd bl sd sl so bo ag rf wt row other (by omega) (by omega)) (cwV 2 C.1.1.2.2.2.2 gX4_moveTo_X4_join rfl rfl rfl (by decide +kernel) ⟨by simp only [gR]; omega, by simp only [gR]; omega⟩) rfl hl.1 (Nat.le_of_ble_eq_true rfl) dX4_moveTo_51 ⟨Nat.le_of_ble_eq_true rfl, Nat.le_of_ble_eq_true rfl⟩) (fun u_2 H locs hw_3 h => ?_)
        have h : gS G A s (pW G ad td tl fd st nb ns bd bl sd sl (va_up so row (some other)) (va_up bo other (some row)) ag rf wt) H locs := h
        refine W.widen (k := 0) (n := 0) (Nat.le_of_ble_eq_true rfl) (Nat.le_of_ble_eq_true rfl) ?_
        refine lv_iload_n hx hb dX4_moveTo_54 rfl (lv_at hl 1 rfl) ?_
        refine lv_iconst (v := -1) hx hb dX4_moveTo_55 (by decide) ?_
        refine lv_icmp_eq (tgt := 75) hx hb dX4_moveTo_56 (by decide) (fun c_56 => ?_) (fun c_56 => ?_)
        · refine lv_iconst (v := 1) hx hb dX4_moveTo_75 (by decide) ?_
          obtain ⟨hM2, hE9, hlo2, hat2, hsz2⟩ := mv_re hnb hns hM hEV hrow hot hE hkp e17
          rw [e24, e37] at hM2 hsz2
          rw [e37] at hE9 hlo2 hat2
          have hM2 : pM nb ns (va_up so row (some other)) (va_up bo other (some row)) := hM2
          have hE9 : pEV ag (va_up so row (some other)) := hE9
          have hsz2 : sz ns (va_up bo other (some row)) + 0 + 0 = sz ns bo + 1 := hsz2
          have hmx := mv_max hnb hns hJ hM2 hE9 hlo2
          exact r_zret C h hr hlk (Nat.zero_le _) (Nat.zero_le _) (Or.inr rfl) ((va_up so row (some other)), (va_up bo other (some row)), rf, wt) (by exfalso; omega) (rfl) dX4_moveTo_76
        · exact absurd c_24 c_56
      · obtain ⟨rb, e37⟩ : ∃ rb, bo other = some rb := Option.ne_none_iff_exists'.mp (fun z => c_37 (by rw [z]; rfl))
        have hrb := (hM.1 other rb (by omega) e37).1
        refine lv_aload_n hx hb dX4_moveTo_40 rfl (lv_at hl 2 rfl) ?_
        refine r_get C h 0 rfl (Cn := RX4) (T := TX4) (N := 11) rfl hinX4 2 (by decide) (index := 21) (ref := "ScaleHouse$Pairing") wd0 rfl (v := .ref (ad 7)) rfl dX4_moveTo_41 ?_
        refine lv_iload hx hb dX4_moveTo_44 (lv_at hl 0 rfl) ?_
        refine lv_iconst (v := -1) hx hb dX4_moveTo_46 (by decide) ?_
        refine r_iast C h 7 rfl (i := (oI (bo other))) (by rw [e37]; exact vp_in_nI (show rb < 20 by omega) (by decide)) dX4_moveTo_47 (fun H locs h => ?_)
        have h : gS G A s ([((ad 0), .inr (4, [.ref (ad 1), .ref (ad 4), .ref (ad 7), .ref (ad 8), .ref (ad 9), .ref (ad 10), .ref (ad 11), .int td, .int tl, .int fd, .int st])), ((ad 1), .inr (7, [.ref (ad 2), .ref (ad 3), .int (nI nb)])), ((ad 2), .inl (G.2.2 1, 20, .inl bd)), ((ad 3), .inl (G.2.2 1, 20, .inl bl)), ((ad 4), .inr (7, [.ref (ad 5), .ref (ad 6), .int (nI ns)])), ((ad 5), .inl (G.2.2 1, 20, .inl sd)), ((ad 6), .inl (G.2.2 1, 20, .inl sl)), ((ad 7), .inl (G.2.2 1, 20, .inl (upd (oF so) (oI (bo other)).toNatClampNeg (-1)))), ((ad 8), .inl (G.2.2 1, 20, .inl (oF bo))), ((ad 9), .inl (G.2.2 1, 20, .inl ag)), ((ad 10), .inl (G.2.2 1, 20, .inl (oF rf))), ((ad 11), .inl (G.2.2 1, 20, .inl (nF wt)))]) H locs := h
        rw [show (upd (oF so) (oI (bo other)).toNatClampNeg (-1)) = (oF (va_up so rb none)) from by rw [e37, show oI (some rb) = nI rb from rfl, nI_clamp (by omega), ← oI_n, oF_up]] at h
        have h : gS G A s (pW G ad td tl fd st nb ns bd bl sd sl (va_up so rb none) bo ag rf wt) H locs := h
        refine lv_aload_n hx hb dX4_moveTo_48 rfl (lv_at hl 2 rfl) ?_
        refine lv_iload_n hx hb dX4_moveTo_49 rfl (lv_at hl 3 rfl) ?_
        refine lv_iload_n hx hb dX4_moveTo_50 rfl (lv_at hl 4 rfl) ?_
        have hp : List.Perm (pW G ad td tl fd st nb ns bd bl sd sl (va_up so rb none) bo ag rf wt : va_W) ([((ad 0), .inr (4, [.ref (ad 1), .ref (ad 4), .ref (ad 7), .ref (ad 8), .ref (ad 9), .ref (ad 10), .ref (ad 11), .int td, .int tl, .int fd, .int st])), ((ad 1), .inr (7, [.ref (ad 2), .ref (ad 3), .int (nI nb)])), ((ad 2), .inl (G.2.2 1, 20, .inl bd)), ((ad 3), .inl (G.2.2 1, 20, .inl bl)), ((ad 4), .inr (7, [.ref (ad 5), .ref (ad 6), .int (nI ns)])), ((ad 5), .inl (G.2.2 1, 20, .inl sd)), ((ad 6), .inl (G.2.2 1, 20, .inl sl)), ((ad 7), .inl (G.2.2 1, 20, .inl (oF (va_up so rb none)))), ((ad 8), .inl (G.2.2 1, 20, .inl (oF bo))), ((ad 9), .inl (G.2.2 1, 20, .inl ag)), ((ad 10), .inl (G.2.2 1, 20, .inl (oF rf))), ((ad 11), .inl (G.2.2 1, 20, .inl (nF wt)))] ++ []) := pm 12 rfl [0, 1, 2, 3, 4, 5, 6, 7, 8, 9, 10, 11] (by decide +kernel) rfl
        refine k_v C h hp (r_runV C h hp 0 rfl rfl (As := [.int (nI row), .int (nI other)]) (rest := []) (p_join l G ad td tl fd st nb ns bd bl sd sl (va_up so rb none) bo ag rf wt row other (by omega) (by omega)) (cwV 2 C.1.1.2.2.2.2 gX4_moveTo_X4_join rfl rfl rfl (by decide +kernel) ⟨by simp only [gR]; omega, by simp only [gR]; omega⟩) rfl hl.1 (Nat.le_of_ble_eq_true rfl) dX4_moveTo_51 ⟨Nat.le_of_ble_eq_true rfl, Nat.le_of_ble_eq_true rfl⟩) (fun u_5 H locs hw_6 h => ?_)
        have h : gS G A s (pW G ad td tl fd st nb ns bd bl sd sl (va_up (va_up so rb none) row (some other)) (va_up bo other (some row)) ag rf wt) H locs := h
        refine W.widen (k := 0) (n := 0) (Nat.le_of_ble_eq_true rfl) (Nat.le_of_ble_eq_true rfl) ?_
        refine lv_iload_n hx hb dX4_moveTo_54 rfl (lv_at hl 1 rfl) ?_
        refine lv_iconst (v := -1) hx hb dX4_moveTo_55 (by decide) ?_
        refine lv_icmp_eq (tgt := 75) hx hb dX4_moveTo_56 (by decide) (fun c_56 => ?_) (fun c_56 => ?_)
        · refine lv_iconst (v := 1) hx hb dX4_moveTo_75 (by decide) ?_
          obtain ⟨hM2, hE9, hlo2, hat2, hsz2⟩ := mv_re hnb hns hM hEV hrow hot hE hkp e17
          rw [e24, e37] at hM2 hsz2
          rw [e37] at hE9 hlo2 hat2
          have hM2 : pM nb ns (va_up (va_up so rb none) row (some other)) (va_up bo other (some row)) := hM2
          have hE9 : pEV ag (va_up (va_up so rb none) row (some other)) := hE9
          have hsz2 : sz ns (va_up bo other (some row)) + 0 + 1 = sz ns bo + 1 := hsz2
          have hmx := mv_max hnb hns hJ hM2 hE9 hlo2
          exact r_zret C h hr hlk (Nat.zero_le _) (Nat.zero_le _) (Or.inr rfl) ((va_up (va_up so rb none) row (some other)), (va_up bo other (some row)), rf, wt) (Or.inl ⟨rfl, (mv_true hnb hns hJ hrow hot hE hkp hM2 hE9 hlo2 hat2 (by omega)).1, hlo2, hat2, by show sz ns (va_up bo other (some row)) = sz ns bo; omega, (mv_true hnb hns hJ hrow hot hE hkp hM2 hE9 hlo2 hat2 (by omega)).2⟩) (rfl) dX4_moveTo_76
        · exact absurd c_24 c_56
    · obtain ⟨lf, e24⟩ : ∃ lf, so row = some lf := Option.ne_none_iff_exists'.mp (fun z => c_24 (by rw [z]; rfl))
      have hlf := (hM.2 row lf (by omega) e24).2.1
      refine lv_aload_n hx hb dX4_moveTo_27 rfl (lv_at hl 2 rfl) ?_
      refine r_get C h 0 rfl (Cn := RX4) (T := TX4) (N := 11) rfl hinX4 3 (by decide) (index := 25) (ref := "ScaleHouse$Pairing") wd1 rfl (v := .ref (ad 8)) rfl dX4_moveTo_28 ?_
      refine lv_iload_n hx hb dX4_moveTo_31 rfl (lv_at hl 1 rfl) ?_
      refine lv_iconst (v := -1) hx hb dX4_moveTo_32 (by decide) ?_
      refine r_iast C h 8 rfl (i := (oI (so row))) (by rw [e24]; exact vp_in_nI (show lf < 20 by omega) (by decide)) dX4_moveTo_33 (fun H locs h => ?_)
      have h : gS G A s ([((ad 0), .inr (4, [.ref (ad 1), .ref (ad 4), .ref (ad 7), .ref (ad 8), .ref (ad 9), .ref (ad 10), .ref (ad 11), .int td, .int tl, .int fd, .int st])), ((ad 1), .inr (7, [.ref (ad 2), .ref (ad 3), .int (nI nb)])), ((ad 2), .inl (G.2.2 1, 20, .inl bd)), ((ad 3), .inl (G.2.2 1, 20, .inl bl)), ((ad 4), .inr (7, [.ref (ad 5), .ref (ad 6), .int (nI ns)])), ((ad 5), .inl (G.2.2 1, 20, .inl sd)), ((ad 6), .inl (G.2.2 1, 20, .inl sl)), ((ad 7), .inl (G.2.2 1, 20, .inl (oF so))), ((ad 8), .inl (G.2.2 1, 20, .inl (upd (oF bo) (oI (so row)).toNatClampNeg (-1)))), ((ad 9), .inl (G.2.2 1, 20, .inl ag)), ((ad 10), .inl (G.2.2 1, 20, .inl (oF rf))), ((ad 11), .inl (G.2.2 1, 20, .inl (nF wt)))]) H locs := h
      rw [show (upd (oF bo) (oI (so row)).toNatClampNeg (-1)) = (oF (va_up bo lf none)) from by rw [e24, show oI (some lf) = nI lf from rfl, nI_clamp (by omega), ← oI_n, oF_up]] at h
      have h : gS G A s (pW G ad td tl fd st nb ns bd bl sd sl so (va_up bo lf none) ag rf wt) H locs := h
      refine lv_iload hx hb dX4_moveTo_34 (lv_at hl 0 rfl) ?_
      refine lv_iconst (v := -1) hx hb dX4_moveTo_36 (by decide) ?_
      refine lv_icmp_eq (tgt := 48) hx hb dX4_moveTo_37 (by decide) (fun c_37 => ?_) (fun c_37 => ?_)
      · have e37 : bo other = none := (oI_m1 (fun k z => by have := (hM.1 other k (by omega) z).1; omega)).mp c_37
        refine lv_aload_n hx hb dX4_moveTo_48 rfl (lv_at hl 2 rfl) ?_
        refine lv_iload_n hx hb dX4_moveTo_49 rfl (lv_at hl 3 rfl) ?_
        refine lv_iload_n hx hb dX4_moveTo_50 rfl (lv_at hl 4 rfl) ?_
        have hp : List.Perm (pW G ad td tl fd st nb ns bd bl sd sl so (va_up bo lf none) ag rf wt : va_W) ([((ad 0), .inr (4, [.ref (ad 1), .ref (ad 4), .ref (ad 7), .ref (ad 8), .ref (ad 9), .ref (ad 10), .ref (ad 11), .int td, .int tl, .int fd, .int st])), ((ad 1), .inr (7, [.ref (ad 2), .ref (ad 3), .int (nI nb)])), ((ad 2), .inl (G.2.2 1, 20, .inl bd)), ((ad 3), .inl (G.2.2 1, 20, .inl bl)), ((ad 4), .inr (7, [.ref (ad 5), .ref (ad 6), .int (nI ns)])), ((ad 5), .inl (G.2.2 1, 20, .inl sd)), ((ad 6), .inl (G.2.2 1, 20, .inl sl)), ((ad 7), .inl (G.2.2 1, 20, .inl (oF so))), ((ad 8), .inl (G.2.2 1, 20, .inl (oF (va_up bo lf none)))), ((ad 9), .inl (G.2.2 1, 20, .inl ag)), ((ad 10), .inl (G.2.2 1, 20, .inl (oF rf))), ((ad 11), .inl (G.2.2 1, 20, .inl (nF wt)))] ++ []) := pm 12 rfl [0, 1, 2, 3, 4, 5, 6, 7, 8, 9, 10, 11] (by decide +kernel) rfl
        refine k_v C h hp (r_runV C h hp 0 rfl rfl (As := [.int (nI row), .int (nI other)]) (rest := []) (p_join l G ad td tl fd st nb ns bd bl sd sl so (va_up bo lf none) ag rf wt row other (by omega) (by omega)) (cwV 2 C.1.1.2.2.2.2 gX4_moveTo_X4_join rfl rfl rfl (by decide +kernel) ⟨by simp only [gR]; omega, by simp only [gR]; omega⟩) rfl hl.1 (Nat.le_of_ble_eq_true rfl) dX4_moveTo_51 ⟨Nat.le_of_ble_eq_true rfl, Nat.le_of_ble_eq_true rfl⟩) (fun u_8 H locs hw_9 h => ?_)
        have h : gS G A s (pW G ad td tl fd st nb ns bd bl sd sl (va_up so row (some other)) (va_up (va_up bo lf none) other (some row)) ag rf wt) H locs := h
        refine W.widen (k := 0) (n := 0) (Nat.le_of_ble_eq_true rfl) (Nat.le_of_ble_eq_true rfl) ?_
        refine lv_iload_n hx hb dX4_moveTo_54 rfl (lv_at hl 1 rfl) ?_
        refine lv_iconst (v := -1) hx hb dX4_moveTo_55 (by decide) ?_
        refine lv_icmp_eq (tgt := 75) hx hb dX4_moveTo_56 (by decide) (fun c_56 => ?_) (fun c_56 => ?_)
        · exact absurd c_56 c_24
        · refine lv_iload hx hb dX4_moveTo_59 (lv_at hl 0 rfl) ?_
          refine lv_iconst (v := -1) hx hb dX4_moveTo_61 (by decide) ?_
          refine lv_icmp_eq (tgt := 75) hx hb dX4_moveTo_62 (by decide) (fun c_62 => ?_) (fun c_62 => ?_)
          · refine lv_iconst (v := 1) hx hb dX4_moveTo_75 (by decide) ?_
            obtain ⟨hM2, hE9, hlo2, hat2, hsz2⟩ := mv_re hnb hns hM hEV hrow hot hE hkp e17
            rw [e24, e37] at hM2 hsz2
            rw [e37] at hE9 hlo2 hat2
            have hM2 : pM nb ns (va_up so row (some other)) (va_up (va_up bo lf none) other (some row)) := hM2
            have hE9 : pEV ag (va_up so row (some other)) := hE9
            have hsz2 : sz ns (va_up (va_up bo lf none) other (some row)) + 1 + 0 = sz ns bo + 1 := hsz2
            have hmx := mv_max hnb hns hJ hM2 hE9 hlo2
            exact r_zret C h hr hlk (Nat.zero_le _) (Nat.zero_le _) (Or.inr rfl) ((va_up so row (some other)), (va_up (va_up bo lf none) other (some row)), rf, wt) (Or.inl ⟨rfl, (mv_true hnb hns hJ hrow hot hE hkp hM2 hE9 hlo2 hat2 (by omega)).1, hlo2, hat2, by show sz ns (va_up (va_up bo lf none) other (some row)) = sz ns bo; omega, (mv_true hnb hns hJ hrow hot hE hkp hM2 hE9 hlo2 hat2 (by omega)).2⟩) (rfl) dX4_moveTo_76
          · exact absurd c_37 c_62
      · obtain ⟨rb, e37⟩ : ∃ rb, bo other = some rb := Option.ne_none_iff_exists'.mp (fun z => c_37 (by rw [z]; rfl))
        have hrb := (hM.1 other rb (by omega) e37).1
        refine lv_aload_n hx hb dX4_moveTo_40 rfl (lv_at hl 2 rfl) ?_
        refine r_get C h 0 rfl (Cn := RX4) (T := TX4) (N := 11) rfl hinX4 2 (by decide) (index := 21) (ref := "ScaleHouse$Pairing") wd0 rfl (v := .ref (ad 7)) rfl dX4_moveTo_41 ?_
        refine lv_iload hx hb dX4_moveTo_44 (lv_at hl 0 rfl) ?_
        refine lv_iconst (v := -1) hx hb dX4_moveTo_46 (by decide) ?_
        refine r_iast C h 7 rfl (i := (oI (bo other))) (by rw [e37]; exact vp_in_nI (show rb < 20 by omega) (by decide)) dX4_moveTo_47 (fun H locs h => ?_)
        have h : gS G A s ([((ad 0), .inr (4, [.ref (ad 1), .ref (ad 4), .ref (ad 7), .ref (ad 8), .ref (ad 9), .ref (ad 10), .ref (ad 11), .int td, .int tl, .int fd, .int st])), ((ad 1), .inr (7, [.ref (ad 2), .ref (ad 3), .int (nI nb)])), ((ad 2), .inl (G.2.2 1, 20, .inl bd)), ((ad 3), .inl (G.2.2 1, 20, .inl bl)), ((ad 4), .inr (7, [.ref (ad 5), .ref (ad 6), .int (nI ns)])), ((ad 5), .inl (G.2.2 1, 20, .inl sd)), ((ad 6), .inl (G.2.2 1, 20, .inl sl)), ((ad 7), .inl (G.2.2 1, 20, .inl (upd (oF so) (oI (bo other)).toNatClampNeg (-1)))), ((ad 8), .inl (G.2.2 1, 20, .inl (oF (va_up bo lf none)))), ((ad 9), .inl (G.2.2 1, 20, .inl ag)), ((ad 10), .inl (G.2.2 1, 20, .inl (oF rf))), ((ad 11), .inl (G.2.2 1, 20, .inl (nF wt)))]) H locs := h
        rw [show (upd (oF so) (oI (bo other)).toNatClampNeg (-1)) = (oF (va_up so rb none)) from by rw [e37, show oI (some rb) = nI rb from rfl, nI_clamp (by omega), ← oI_n, oF_up]] at h
        have h : gS G A s (pW G ad td tl fd st nb ns bd bl sd sl (va_up so rb none) (va_up bo lf none) ag rf wt) H locs := h
        refine lv_aload_n hx hb dX4_moveTo_48 rfl (lv_at hl 2 rfl) ?_
        refine lv_iload_n hx hb dX4_moveTo_49 rfl (lv_at hl 3 rfl) ?_
        refine lv_iload_n hx hb dX4_moveTo_50 rfl (lv_at hl 4 rfl) ?_
        have hp : List.Perm (pW G ad td tl fd st nb ns bd bl sd sl (va_up so rb none) (va_up bo lf none) ag rf wt : va_W) ([((ad 0), .inr (4, [.ref (ad 1), .ref (ad 4), .ref (ad 7), .ref (ad 8), .ref (ad 9), .ref (ad 10), .ref (ad 11), .int td, .int tl, .int fd, .int st])), ((ad 1), .inr (7, [.ref (ad 2), .ref (ad 3), .int (nI nb)])), ((ad 2), .inl (G.2.2 1, 20, .inl bd)), ((ad 3), .inl (G.2.2 1, 20, .inl bl)), ((ad 4), .inr (7, [.ref (ad 5), .ref (ad 6), .int (nI ns)])), ((ad 5), .inl (G.2.2 1, 20, .inl sd)), ((ad 6), .inl (G.2.2 1, 20, .inl sl)), ((ad 7), .inl (G.2.2 1, 20, .inl (oF (va_up so rb none)))), ((ad 8), .inl (G.2.2 1, 20, .inl (oF (va_up bo lf none)))), ((ad 9), .inl (G.2.2 1, 20, .inl ag)), ((ad 10), .inl (G.2.2 1, 20, .inl (oF rf))), ((ad 11), .inl (G.2.2 1, 20, .inl (nF wt)))] ++ []) := pm 12 rfl [0, 1, 2, 3, 4, 5, 6, 7, 8, 9, 10, 11] (by decide +kernel) rfl
        refine k_v C h hp (r_runV C h hp 0 rfl rfl (As := [.int (nI row), .int (nI other)]) (rest := []) (p_join l G ad td tl fd st nb ns bd bl sd sl (va_up so rb none) (va_up bo lf none) ag rf wt row other (by omega) (by omega)) (cwV 2 C.1.1.2.2.2.2 gX4_moveTo_X4_join rfl rfl rfl (by decide +kernel) ⟨by simp only [gR]; omega, by simp only [gR]; omega⟩) rfl hl.1 (Nat.le_of_ble_eq_true rfl) dX4_moveTo_51 ⟨Nat.le_of_ble_eq_true rfl, Nat.le_of_ble_eq_true rfl⟩) (fun u_11 H locs hw_12 h => ?_)
        have h : gS G A s (pW G ad td tl fd st nb ns bd bl sd sl (va_up (va_up so rb none) row (some other)) (va_up (va_up bo lf none) other (some row)) ag rf wt) H locs := h
        refine W.widen (k := 0) (n := 0) (Nat.le_of_ble_eq_true rfl) (Nat.le_of_ble_eq_true rfl) ?_
        refine lv_iload_n hx hb dX4_moveTo_54 rfl (lv_at hl 1 rfl) ?_
        refine lv_iconst (v := -1) hx hb dX4_moveTo_55 (by decide) ?_
        refine lv_icmp_eq (tgt := 75) hx hb dX4_moveTo_56 (by decide) (fun c_56 => ?_) (fun c_56 => ?_)
        · exact absurd c_56 c_24
        · refine lv_iload hx hb dX4_moveTo_59 (lv_at hl 0 rfl) ?_
          refine lv_iconst (v := -1) hx hb dX4_moveTo_61 (by decide) ?_
          refine lv_icmp_eq (tgt := 75) hx hb dX4_moveTo_62 (by decide) (fun c_62 => ?_) (fun c_62 => ?_)
          · exact absurd c_62 c_37
          · obtain ⟨hM2, hE9, hlo2, hat2, hsz2⟩ := mv_re hnb hns hM hEV hrow hot hE hkp e17
            rw [e24, e37] at hM2 hsz2
            rw [e37] at hE9 hlo2 hat2
            have hM2 : pM nb ns (va_up (va_up so rb none) row (some other)) (va_up (va_up bo lf none) other (some row)) := hM2
            have hE9 : pEV ag (va_up (va_up so rb none) row (some other)) := hE9
            refine lv_aload_n hx hb dX4_moveTo_65 rfl (lv_at hl 2 rfl) ?_
            refine lv_iload_n hx hb dX4_moveTo_66 rfl (lv_at hl 3 rfl) ?_
            refine lv_iconst (v := 1) hx hb dX4_moveTo_67 (by decide) ?_
            refine lv_iadd hx hb dX4_moveTo_68 ?_
            refine lv_cgi (y := (nI (row + 1))) (nI_1 row) ?_
            have hp : List.Perm (pW G ad td tl fd st nb ns bd bl sd sl (va_up (va_up so rb none) row (some other)) (va_up (va_up bo lf none) other (some row)) ag rf wt : va_W) ([((ad 0), .inr (4, [.ref (ad 1), .ref (ad 4), .ref (ad 7), .ref (ad 8), .ref (ad 9), .ref (ad 10), .ref (ad 11), .int td, .int tl, .int fd, .int st])), ((ad 1), .inr (7, [.ref (ad 2), .ref (ad 3), .int (nI nb)])), ((ad 2), .inl (G.2.2 1, 20, .inl bd)), ((ad 3), .inl (G.2.2 1, 20, .inl bl)), ((ad 4), .inr (7, [.ref (ad 5), .ref (ad 6), .int (nI ns)])), ((ad 5), .inl (G.2.2 1, 20, .inl sd)), ((ad 6), .inl (G.2.2 1, 20, .inl sl)), ((ad 7), .inl (G.2.2 1, 20, .inl (oF (va_up (va_up so rb none) row (some other))))), ((ad 8), .inl (G.2.2 1, 20, .inl (oF (va_up (va_up bo lf none) other (some row))))), ((ad 9), .inl (G.2.2 1, 20, .inl ag)), ((ad 10), .inl (G.2.2 1, 20, .inl (oF rf))), ((ad 11), .inl (G.2.2 1, 20, .inl (nF wt)))] ++ []) := pm 12 rfl [0, 1, 2, 3, 4, 5, 6, 7, 8, 9, 10, 11] (by decide +kernel) rfl
            refine k_i C h hp (r_runV C h hp 0 rfl rfl (As := [.int (nI (row + 1))]) (rest := []) (p_pairOneMore l G ad td tl fd st nb ns bd bl sd sl (va_up (va_up so rb none) row (some other)) (va_up (va_up bo lf none) other (some row)) ag rf wt (row + 1) hnb hns (by omega) (hM2)) (cwV 1 C.1.1.2.2.2.2 gX4_moveTo_X4_pairOneMore rfl rfl rfl (by decide +kernel) ⟨by simp only [gR]; omega, by simp only [gR]; omega⟩) rfl hl.1 (Nat.le_of_ble_eq_true rfl) dX4_moveTo_69 ⟨Nat.le_of_ble_eq_true rfl, Nat.le_of_ble_eq_true rfl⟩) (fun r_13 u_14 H locs hw_15 h => ?_)
            subst hw_15
            have hS9 : ∀ e9, (pmS (va_up (va_up so rb none) row (some other)) (va_up (va_up bo lf none) other (some row)) ag nb ns (row + 1) rf wt).1 = some e9 → _ := fun e9 hz9 => pm_some hns hnb (by omega) (hM2) hE9 hz9
            have hN9 : (pmS (va_up (va_up so rb none) row (some other)) (va_up (va_up bo lf none) other (some row)) ag nb ns (row + 1) rf wt).1 = none → _ := fun hz9 => pm_none hns hnb (by omega) (hM2) hE9 hz9
            generalize ez9 : (pmS (va_up (va_up so rb none) row (some other)) (va_up (va_up bo lf none) other (some row)) ag nb ns (row + 1) rf wt) = z9 at h hS9 hN9 ⊢
            have h : gS G A s (pW G ad td tl fd st nb ns bd bl sd sl ((pmR (va_up (va_up so rb none) row (some other)) (va_up (va_up bo lf none) other (some row)) z9).1) ((pmR (va_up (va_up so rb none) row (some other)) (va_up (va_up bo lf none) other (some row)) z9).2) ag z9.2.1 z9.2.2.1) H locs := h
            refine W.widen (k := 0) (n := 0) (Nat.le_of_ble_eq_true rfl) (Nat.le_of_ble_eq_true rfl) ?_
            refine lv_if_eq (tgt := 77) hx hb dX4_moveTo_72 (by decide) (fun c_72 => ?_) (fun c_72 => ?_)
            · have e72 := zo_0 c_72
              have eR : pmR (va_up (va_up so rb none) row (some other)) (va_up (va_up bo lf none) other (some row)) z9 = ((va_up (va_up so rb none) row (some other)), (va_up (va_up bo lf none) other (some row))) := by unfold pmR; rw [if_pos e72]
              rw [eR] at h
              have h : gS G A s (pW G ad td tl fd st nb ns bd bl sd sl (va_up (va_up so rb none) row (some other)) (va_up (va_up bo lf none) other (some row)) ag z9.2.1 z9.2.2.1) H locs := h
              refine lv_aload_n hx hb dX4_moveTo_77 rfl (lv_at hl 2 rfl) ?_
              refine lv_iload_n hx hb dX4_moveTo_78 rfl (lv_at hl 3 rfl) ?_
              refine lv_iload_n hx hb dX4_moveTo_79 rfl (lv_at hl 1 rfl) ?_
              refine lv_cgi (y := (nI lf)) (by rw [e24]; rfl) ?_
              have hp : List.Perm (pW G ad td tl fd st nb ns bd bl sd sl (va_up (va_up so rb none) row (some other)) (va_up (va_up bo lf none) other (some row)) ag z9.2.1 z9.2.2.1 : va_W) ([((ad 0), .inr (4, [.ref (ad 1), .ref (ad 4), .ref (ad 7), .ref (ad 8), .ref (ad 9), .ref (ad 10), .ref (ad 11), .int td, .int tl, .int fd, .int st])), ((ad 1), .inr (7, [.ref (ad 2), .ref (ad 3), .int (nI nb)])), ((ad 2), .inl (G.2.2 1, 20, .inl bd)), ((ad 3), .inl (G.2.2 1, 20, .inl bl)), ((ad 4), .inr (7, [.ref (ad 5), .ref (ad 6), .int (nI ns)])), ((ad 5), .inl (G.2.2 1, 20, .inl sd)), ((ad 6), .inl (G.2.2 1, 20, .inl sl)), ((ad 7), .inl (G.2.2 1, 20, .inl (oF (va_up (va_up so rb none) row (some other))))), ((ad 8), .inl (G.2.2 1, 20, .inl (oF (va_up (va_up bo lf none) other (some row))))), ((ad 9), .inl (G.2.2 1, 20, .inl ag)), ((ad 10), .inl (G.2.2 1, 20, .inl (oF z9.2.1))), ((ad 11), .inl (G.2.2 1, 20, .inl (nF z9.2.2.1)))] ++ []) := pm 12 rfl [0, 1, 2, 3, 4, 5, 6, 7, 8, 9, 10, 11] (by decide +kernel) rfl
              refine k_v C h hp (r_runV C h hp 0 rfl rfl (As := [.int (nI row), .int (nI lf)]) (rest := []) (p_join l G ad td tl fd st nb ns bd bl sd sl (va_up (va_up so rb none) row (some other)) (va_up (va_up bo lf none) other (some row)) ag z9.2.1 z9.2.2.1 row lf (by omega) (by omega)) (cwV 2 C.1.1.2.2.2.2 gX4_moveTo_X4_join rfl rfl rfl (by decide +kernel) ⟨by simp only [gR]; omega, by simp only [gR]; omega⟩) rfl hl.1 (Nat.le_of_ble_eq_true rfl) dX4_moveTo_80 ⟨Nat.le_of_ble_eq_true rfl, Nat.le_of_ble_eq_true rfl⟩) (fun u_17 H locs hw_18 h => ?_)
              have h : gS G A s (pW G ad td tl fd st nb ns bd bl sd sl (va_up (va_up (va_up so rb none) row (some other)) row (some lf)) (va_up (va_up (va_up bo lf none) other (some row)) lf (some row)) ag z9.2.1 z9.2.2.1) H locs := h
              refine W.widen (k := 0) (n := 0) (Nat.le_of_ble_eq_true rfl) (Nat.le_of_ble_eq_true rfl) ?_
              refine lv_aload_n hx hb dX4_moveTo_83 rfl (lv_at hl 2 rfl) ?_
              refine lv_iload hx hb dX4_moveTo_84 (lv_at hl 0 rfl) ?_
              refine lv_cgi (y := (nI rb)) (by rw [e37]; rfl) ?_
              refine lv_iload_n hx hb dX4_moveTo_86 rfl (lv_at hl 4 rfl) ?_
              have hp : List.Perm (pW G ad td tl fd st nb ns bd bl sd sl (va_up (va_up (va_up so rb none) row (some other)) row (some lf)) (va_up (va_up (va_up bo lf none) other (some row)) lf (some row)) ag z9.2.1 z9.2.2.1 : va_W) ([((ad 0), .inr (4, [.ref (ad 1), .ref (ad 4), .ref (ad 7), .ref (ad 8), .ref (ad 9), .ref (ad 10), .ref (ad 11), .int td, .int tl, .int fd, .int st])), ((ad 1), .inr (7, [.ref (ad 2), .ref (ad 3), .int (nI nb)])), ((ad 2), .inl (G.2.2 1, 20, .inl bd)), ((ad 3), .inl (G.2.2 1, 20, .inl bl)), ((ad 4), .inr (7, [.ref (ad 5), .ref (ad 6), .int (nI ns)])), ((ad 5), .inl (G.2.2 1, 20, .inl sd)), ((ad 6), .inl (G.2.2 1, 20, .inl sl)), ((ad 7), .inl (G.2.2 1, 20, .inl (oF (va_up (va_up (va_up so rb none) row (some other)) row (some lf))))), ((ad 8), .inl (G.2.2 1, 20, .inl (oF (va_up (va_up (va_up bo lf none) other (some row)) lf (some row))))), ((ad 9), .inl (G.2.2 1, 20, .inl ag)), ((ad 10), .inl (G.2.2 1, 20, .inl (oF z9.2.1))), ((ad 11), .inl (G.2.2 1, 20, .inl (nF z9.2.2.1)))] ++ []) := pm 12 rfl [0, 1, 2, 3, 4, 5, 6, 7, 8, 9, 10, 11] (by decide +kernel) rfl
              refine k_v C h hp (r_runV C h hp 0 rfl rfl (As := [.int (nI rb), .int (nI other)]) (rest := []) (p_join l G ad td tl fd st nb ns bd bl sd sl (va_up (va_up (va_up so rb none) row (some other)) row (some lf)) (va_up (va_up (va_up bo lf none) other (some row)) lf (some row)) ag z9.2.1 z9.2.2.1 rb other (by omega) (by omega)) (cwV 2 C.1.1.2.2.2.2 gX4_moveTo_X4_join rfl rfl rfl (by decide +kernel) ⟨by simp only [gR]; omega, by simp only [gR]; omega⟩) rfl hl.1 (Nat.le_of_ble_eq_true rfl) dX4_moveTo_87 ⟨Nat.le_of_ble_eq_true rfl, Nat.le_of_ble_eq_true rfl⟩) (fun u_20 H locs hw_21 h => ?_)
              have h : gS G A s (pW G ad td tl fd st nb ns bd bl sd sl (va_up (va_up (va_up (va_up so rb none) row (some other)) row (some lf)) rb (some other)) (va_up (va_up (va_up (va_up bo lf none) other (some row)) lf (some row)) other (some rb)) ag z9.2.1 z9.2.2.1) H locs := h
              refine W.widen (k := 0) (n := 0) (Nat.le_of_ble_eq_true rfl) (Nat.le_of_ble_eq_true rfl) ?_
              refine lv_iconst (v := 0) hx hb dX4_moveTo_90 (by decide) ?_
              exact r_zret C h hr hlk (Nat.zero_le _) (Nat.zero_le _) (Or.inl rfl) (so, bo, z9.2.1, z9.2.2.1) (Or.inr ⟨rfl, rfl, rfl, mv_false hnb hns hJ hrow hot hkp hM2 hE9 hlo2 hat2 (by simp only [Option.isSome_some, Bool.toNat_true] at hsz2; have hsz2 : sz ns (va_up (va_up bo lf none) other (some row)) + 1 + 1 = sz ns bo + 1 := hsz2; omega) (by rw [ez9]; exact e72)⟩) (by rw [(mv_back hM (by omega) (by omega) e24 e37 e17).1, (mv_back hM (by omega) (by omega) e24 e37 e17).2]) dX4_moveTo_91
            · refine lv_iconst (v := 1) hx hb dX4_moveTo_75 (by decide) ?_
              obtain ⟨e9, hz9⟩ := zo_1 c_72
              obtain ⟨q1, q2, q3, q4⟩ := hS9 e9 hz9
              have q5 := (q3 row (by omega)).trans hat2
              have q3 := fun q hq => (q3 q (Nat.lt_succ_of_lt hq)).trans (hlo2 q hq)
              have q6 := q4.trans (show _ = sz ns bo by have hsz2 : sz ns (va_up (va_up bo lf none) other (some row)) + 1 + 1 = sz ns bo + 1 := hsz2; omega)
              exact r_zret C h hr hlk (Nat.zero_le _) (Nat.zero_le _) (Or.inr rfl) ((pmR (va_up (va_up so rb none) row (some other)) (va_up (va_up bo lf none) other (some row)) z9).1, (pmR (va_up (va_up so rb none) row (some other)) (va_up (va_up bo lf none) other (some row)) z9).2, z9.2.1, z9.2.2.1) (Or.inl ⟨rfl, (mv_true hnb hns hJ hrow hot hE hkp q1 q2 q3 q5 q6).1, q3, q5, q6, (mv_true hnb hns hJ hrow hot hE hkp q1 q2 q3 q5 q6).2⟩) (rfl) dX4_moveTo_76
  · have e17 : so row = some other := oI_eq c_17 (fun k hk => by have := (hM.2 row k (by omega) hk).2.1; omega) (by omega)
    refine lv_iconst (v := 1) hx hb dX4_moveTo_20 (by decide) ?_
    exact r_zret C h hr hlk (Nat.zero_le _) (Nat.zero_le _) (Or.inr rfl) (so, bo, rf, wt) (Or.inl ⟨rfl, (mv_true hnb hns hJ hrow hot hE hkp hM hEV (fun _ _ => rfl) e17 rfl).1, fun _ _ => rfl, e17, rfl, (mv_true hnb hns hJ hrow hot hE hkp hM hEV (fun _ _ => rfl) e17 rfl).2⟩) (rfl) dX4_moveTo_21

set_option maxHeartbeats 4000000 in
set_option maxRecDepth 100000 in
theorem lp_X4_take {p : Program} {l : Launch} {e : Env} {s : State} {m : MethodId} {args : Array Value} {below : List Frame} {meth : Method} {c : Code} {Q : State → Prop} {G : gG} {A : Nat → Prop} (C : gC p m c cX4_takeLowest 4 s args wsX4_takeLowest RX4 G A) (ad : Nat → Nat) (td tl fd st : Int32) (nb ns : Nat) (bd bl sd sl : Nat → Int32) (so bo : Nat → Option Nat) (ag : Nat → Int32) (hnb : nb ≤ 20) (hns : ns ≤ 20) (row : Nat) (hrow : row < nb) (hst : pSt ag nb ns row so bo) (kx1 : ∀ (u : (Nat → Option Nat) × (Nat → Option Nat) × (Nat → Option Nat) × (Nat → Nat)) (H : Heap) (locs : List Loc) (ls : Array Slot), pSt ag nb ns (row + 1) u.1 u.2.1 → gS G A s (pW G ad td tl fd st nb ns bd bl sd sl u.1 u.2.1 ag u.2.2.1 u.2.2.2) H locs → W p l e (gR 4 130 0 0) s m args below meth c H locs 0 0 Q (F0 m 61 ls [])) (kx2 : ∀ (u : (Nat → Option Nat) × (Nat → Option Nat) × (Nat → Option Nat) × (Nat → Nat)) (H : Heap) (locs : List Loc) (ls : Array Slot), pSt ag nb ns (row + 1) u.1 u.2.1 → gS G A s (pW G ad td tl fd st nb ns bd bl sd sl u.1 u.2.1 ag u.2.2.1 u.2.2.2) H locs → W p l e (gR 4 130 0 0) s m args below meth c H locs 0 0 Q (F0 m 54 ls [])) :
    ∀ (r : Nat) (b : Nat) (rf : Nat → Option Nat) (wt : Nat → Nat) (H : Heap) (locs : List Loc) (ls : Array Slot), (b + r = ns) → (pI (pE ag) nb ns row (cS (pE ag) nb ns row).1 (cS (pE ag) nb ns row).2 r b = cX (pE ag) nb ns row) →  gS G A s (pW G ad td tl fd st nb ns bd bl sd sl so bo ag rf wt) H locs → lv_has ls 4 [(0, .ref (ad 0)), (1, .int (nI row)), (2, .int (nI b))] → W p l e (gR 4 130 0 0) s m args below meth c H locs 0 0 Q (F0 m 2 ls []) := by
  have hx := C.1.1.1
  have hb := C.1.1.2.1
  have wd0 : Cond.fieldLink RX4 18 "ScaleHouse$Pairing" "seller" "LScaleHouse$Tally;" ∈ wsX4_takeLowest := by decide +kernel
  have hinX4 : ∀ w ∈ wsX40, w ∈ wsX4_takeLowest := fun _ h => List.mem_cons_of_mem _ (List.mem_append_left _ (List.mem_append_right _ h))
  have wd1 : Cond.fieldLinkNest RX4 55 "ScaleHouse$Tally" "size" "I" "ScaleHouse" ∈ nW := by decide +kernel
  have hinX7 : ∀ w ∈ wsX70, w ∈ wsX4_takeLowest := fun _ h => List.mem_cons_of_mem _ (List.mem_append_right _ h)
  have wd2 : Cond.fieldLink RX4 28 "ScaleHouse$Pairing" "agreeing" "[I" ∈ wsX4_takeLowest := by decide +kernel
  intro r
  induction r with
  | zero =>
    intro b rf wt H locs ls hi hz h hl
    refine lv_iload_n hx hb dX4_takeLowest_2 rfl (lv_at hl 2 rfl) ?_
    refine lv_aload_n hx hb dX4_takeLowest_3 rfl (lv_at hl 0 rfl) ?_
    refine r_get C h 0 rfl (Cn := RX4) (T := TX4) (N := 11) rfl hinX4 1 (by decide) (index := 18) (ref := "ScaleHouse$Pairing") wd0 rfl (v := .ref (ad 4)) rfl dX4_takeLowest_4 ?_
    refine r_getN C h 4 rfl (Cn := RX7) (T := TX7) (N := 3) rfl hinX7 2 (by decide) (index := 55) (ref := "ScaleHouse$Tally") wd1 rfl (v := .int (nI ns)) rfl dX4_takeLowest_7 ?_
    refine lv_icmp_ge (tgt := 61) hx hb dX4_takeLowest_10 (by decide) (fun c_10 => ?_) (fun c_10 => ?_)
    · exact kx1 (so, bo, rf, wt) _ _ ls (st_none hnb hns hrow hst hz.symm) h
    · exact absurd (by rw [show b = ns by omega]; exact Int32.le_refl _) c_10
  | succ r ih =>
    intro b rf wt H locs ls hi hz h hl
    refine lv_iload_n hx hb dX4_takeLowest_2 rfl (lv_at hl 2 rfl) ?_
    refine lv_aload_n hx hb dX4_takeLowest_3 rfl (lv_at hl 0 rfl) ?_
    refine r_get C h 0 rfl (Cn := RX4) (T := TX4) (N := 11) rfl hinX4 1 (by decide) (index := 18) (ref := "ScaleHouse$Pairing") wd0 rfl (v := .ref (ad 4)) rfl dX4_takeLowest_4 ?_
    refine r_getN C h 4 rfl (Cn := RX7) (T := TX7) (N := 3) rfl hinX7 2 (by decide) (index := 55) (ref := "ScaleHouse$Tally") wd1 rfl (v := .int (nI ns)) rfl dX4_takeLowest_7 ?_
    refine lv_icmp_ge (tgt := 61) hx hb dX4_takeLowest_10 (by decide) (fun c_10 => ?_) (fun c_10 => ?_)
    · exact absurd c_10 (nI_ge (by omega) (by omega))
    · refine lv_aload_n hx hb dX4_takeLowest_13 rfl (lv_at hl 0 rfl) ?_
      refine r_get C h 0 rfl (Cn := RX4) (T := TX4) (N := 11) rfl hinX4 4 (by decide) (index := 28) (ref := "ScaleHouse$Pairing") wd2 rfl (v := .ref (ad 9)) rfl dX4_takeLowest_14 ?_
      refine lv_iload_n hx hb dX4_takeLowest_17 rfl (lv_at hl 1 rfl) ?_
      refine r_iald C h 9 rfl (i := (nI row)) (vp_in_nI (by omega) (by decide)) dX4_takeLowest_18 ?_
      refine lv_cgi (y := (ag row)) (nn_at ag (by omega)) ?_
      refine lv_iload_n hx hb dX4_takeLowest_19 rfl (lv_at hl 2 rfl) ?_
      refine lv_ishr hx hb dX4_takeLowest_20 ?_
      refine lv_iconst (v := 1) hx hb dX4_takeLowest_21 (by decide) ?_
      refine lv_iand hx hb dX4_takeLowest_22 ?_
      refine lv_if_eq (tgt := 30) hx hb dX4_takeLowest_23 (by decide) (fun c_23 => ?_) (fun c_23 => ?_)
      · have e23 : ¬ pE ag row b = true := fun z9 => (of_decide_eq_true z9) c_23
        refine lv_iconst (v := 0) hx hb dX4_takeLowest_30 (by decide) ?_
        refine lv_istore_n (lv' := [(3, .int 0), (0, .ref (ad 0)), (1, .int (nI row)), (2, .int (nI b))]) hx hb dX4_takeLowest_31 rfl hl (by decide) rfl (fun ls hl => ?_)
        refine lv_iload_n hx hb dX4_takeLowest_32 rfl (lv_at hl 0 rfl) ?_
        refine lv_if_eq (tgt := 55) hx hb dX4_takeLowest_33 (by decide) (fun c_33 => ?_) (fun c_33 => ?_)
        · refine lv_iinc (v := nI (b + 1)) (lv' := [(2, .int (nI (b + 1))), (3, .int 0), (0, .ref (ad 0)), (1, .int (nI row))]) hx hb dX4_takeLowest_55 hl (k := 3) rfl (nI_1 _) (by decide) rfl (fun ls hl => ?_)
          refine lv_goto (tgt := 2) hx hb dX4_takeLowest_58 (by decide) ?_
          exact ih (b + 1) rf wt _ _ ls (by omega) (by rw [← hz, pI, if_neg e23, ite_self]) h (lv_sub hl [2, 3, 0] rfl)
        · exact absurd c_33 (by decide)
      · have e23 : pE ag row b = true := decide_eq_true c_23
        refine lv_iconst (v := 1) hx hb dX4_takeLowest_26 (by decide) ?_
        refine lv_goto (tgt := 31) hx hb dX4_takeLowest_27 (by decide) ?_
        refine lv_istore_n (lv' := [(3, .int 1), (0, .ref (ad 0)), (1, .int (nI row)), (2, .int (nI b))]) hx hb dX4_takeLowest_31 rfl hl (by decide) rfl (fun ls hl => ?_)
        refine lv_iload_n hx hb dX4_takeLowest_32 rfl (lv_at hl 0 rfl) ?_
        refine lv_if_eq (tgt := 55) hx hb dX4_takeLowest_33 (by decide) (fun c_33 => ?_) (fun c_33 => ?_)
        · exact absurd c_33 (by decide)
        · refine lv_aload_n hx hb dX4_takeLowest_36 rfl (lv_at hl 1 rfl) ?_
          refine lv_iload_n hx hb dX4_takeLowest_37 rfl (lv_at hl 3 rfl) ?_
          refine lv_iload_n hx hb dX4_takeLowest_38 rfl (lv_at hl 2 rfl) ?_
          have hp : List.Perm (pW G ad td tl fd st nb ns bd bl sd sl so bo ag rf wt : va_W) ([((ad 0), .inr (4, [.ref (ad 1), .ref (ad 4), .ref (ad 7), .ref (ad 8), .ref (ad 9), .ref (ad 10), .ref (ad 11), .int td, .int tl, .int fd, .int st])), ((ad 1), .inr (7, [.ref (ad 2), .ref (ad 3), .int (nI nb)])), ((ad 2), .inl (G.2.2 1, 20, .inl bd)), ((ad 3), .inl (G.2.2 1, 20, .inl bl)), ((ad 4), .inr (7, [.ref (ad 5), .ref (ad 6), .int (nI ns)])), ((ad 5), .inl (G.2.2 1, 20, .inl sd)), ((ad 6), .inl (G.2.2 1, 20, .inl sl)), ((ad 7), .inl (G.2.2 1, 20, .inl (oF so))), ((ad 8), .inl (G.2.2 1, 20, .inl (oF bo))), ((ad 9), .inl (G.2.2 1, 20, .inl ag)), ((ad 10), .inl (G.2.2 1, 20, .inl (oF rf))), ((ad 11), .inl (G.2.2 1, 20, .inl (nF wt)))] ++ []) := pm 12 rfl [0, 1, 2, 3, 4, 5, 6, 7, 8, 9, 10, 11] (by decide +kernel) rfl
          refine k_i C h hp (r_runV C h hp 0 rfl rfl (As := [.int (nI b), .int (nI row)]) (rest := []) (p_isKept l G ad td tl fd st nb ns bd bl sd sl so bo ag rf wt b row (by omega) (by omega) (fun k hk => by have := (hst.1.1.1 b k (by omega) hk).1; omega)) (cwV 2 C.1.1.2.2.2.2 gX4_takeLowest_X4_isKept rfl rfl rfl (by decide +kernel) ⟨by simp only [gR]; omega, by simp only [gR]; omega⟩) rfl hl.1 (Nat.le_of_ble_eq_true rfl) dX4_takeLowest_39 ⟨Nat.le_of_ble_eq_true rfl, Nat.le_of_ble_eq_true rfl⟩) (fun r_2 u_3 H locs hw_4 h => ?_)
          have h : gS G A s (pW G ad td tl fd st nb ns bd bl sd sl so bo ag rf wt) H locs := h
          refine W.widen (k := 0) (n := 0) (Nat.le_of_ble_eq_true rfl) (Nat.le_of_ble_eq_true rfl) ?_
          subst hw_4
          refine lv_if_ne (tgt := 55) hx hb dX4_takeLowest_42 (by decide) (fun c_42 => ?_) (fun c_42 => ?_)
          · have e42 : pKept bo b row = true := bi_1 c_42
            refine lv_iinc (v := nI (b + 1)) (lv' := [(2, .int (nI (b + 1))), (3, .int 1), (0, .ref (ad 0)), (1, .int (nI row))]) hx hb dX4_takeLowest_55 hl (k := 3) rfl (nI_1 _) (by decide) rfl (fun ls hl => ?_)
            refine lv_goto (tgt := 2) hx hb dX4_takeLowest_58 (by decide) ?_
            exact ih (b + 1) rf wt _ _ ls (by omega) (by rw [← hz, pI, if_pos (by rw [hst.2.2.1 b (by omega)]; exact e42)]) h (lv_sub hl [2, 3, 0] rfl)
          · have e42 : pKept bo b row = false := bi_0.mp c_42
            refine lv_aload_n hx hb dX4_takeLowest_45 rfl (lv_at hl 1 rfl) ?_
            refine lv_iload_n hx hb dX4_takeLowest_46 rfl (lv_at hl 2 rfl) ?_
            refine lv_iload_n hx hb dX4_takeLowest_47 rfl (lv_at hl 3 rfl) ?_
            have hp : List.Perm (pW G ad td tl fd st nb ns bd bl sd sl so bo ag rf wt : va_W) ([((ad 0), .inr (4, [.ref (ad 1), .ref (ad 4), .ref (ad 7), .ref (ad 8), .ref (ad 9), .ref (ad 10), .ref (ad 11), .int td, .int tl, .int fd, .int st])), ((ad 1), .inr (7, [.ref (ad 2), .ref (ad 3), .int (nI nb)])), ((ad 2), .inl (G.2.2 1, 20, .inl bd)), ((ad 3), .inl (G.2.2 1, 20, .inl bl)), ((ad 4), .inr (7, [.ref (ad 5), .ref (ad 6), .int (nI ns)])), ((ad 5), .inl (G.2.2 1, 20, .inl sd)), ((ad 6), .inl (G.2.2 1, 20, .inl sl)), ((ad 7), .inl (G.2.2 1, 20, .inl (oF so))), ((ad 8), .inl (G.2.2 1, 20, .inl (oF bo))), ((ad 9), .inl (G.2.2 1, 20, .inl ag)), ((ad 10), .inl (G.2.2 1, 20, .inl (oF rf))), ((ad 11), .inl (G.2.2 1, 20, .inl (nF wt)))] ++ []) := pm 12 rfl [0, 1, 2, 3, 4, 5, 6, 7, 8, 9, 10, 11] (by decide +kernel) rfl
            refine k_i C h hp (r_runV C h hp 0 rfl rfl (As := [.int (nI row), .int (nI b)]) (rest := []) (p_moveTo l G ad td tl fd st nb ns bd bl sd sl so bo ag rf wt hnb hns row b hrow (by omega) hst.1 e23 e42) (cwV 2 C.1.1.2.2.2.2 gX4_takeLowest_X4_moveTo rfl rfl rfl (by decide +kernel) ⟨by simp only [gR]; omega, by simp only [gR]; omega⟩) rfl hl.1 (Nat.le_of_ble_eq_true rfl) dX4_takeLowest_48 ⟨Nat.le_of_ble_eq_true rfl, Nat.le_of_ble_eq_true rfl⟩) (fun v9 u9 H locs hw9 h => ?_)
            have h : gS G A s (pW G ad td tl fd st nb ns bd bl sd sl u9.1 u9.2.1 ag u9.2.2.1 u9.2.2.2) H locs := h
            refine W.widen (k := 0) (n := 0) (Nat.le_of_ble_eq_true rfl) (Nat.le_of_ble_eq_true rfl) ?_
            refine lv_if_eq (tgt := 55) hx hb dX4_takeLowest_51 (by decide) (fun c_51 => ?_) (fun c_51 => ?_)
            · refine lv_iinc (v := nI (b + 1)) (lv' := [(2, .int (nI (b + 1))), (3, .int 1), (0, .ref (ad 0)), (1, .int (nI row))]) hx hb dX4_takeLowest_55 hl (k := 3) rfl (nI_1 _) (by decide) rfl (fun ls hl => ?_)
              refine lv_goto (tgt := 2) hx hb dX4_takeLowest_58 (by decide) ?_
              have e51 : ¬ pCd ag nb ns row b bo ∧ u9.1 = so ∧ u9.2.1 = bo := by
                rcases hw9 with ⟨w1, -⟩ | ⟨-, w2, w3, w4⟩
                · rw [w1] at c_51; exact absurd c_51 (by decide)
                · exact ⟨w4, w2, w3⟩
              obtain ⟨e51, e52, e53⟩ := e51
              rw [e52, e53] at h
              exact ih (b + 1) u9.2.2.1 u9.2.2.2 _ _ ls (by omega) (by rw [← hz, pI, if_neg (by rw [hst.2.2.1 b (by omega), e42]; decide), if_pos e23, if_neg (fun z9 => e51 ((st_cd hrow hst).mpr z9))]) h (lv_sub hl [2, 3, 0] rfl)
            · have e51 : pJ ag nb ns (row + 1) u9.1 u9.2.1 ∧ (∀ q, q < row → u9.1 q = so q) ∧ u9.1 row = some b ∧ sz ns u9.2.1 = sz ns bo ∧ pCd ag nb ns row b bo := by
                rcases hw9 with ⟨-, w⟩ | ⟨w1, -⟩
                · exact w
                · exact absurd w1 c_51
              obtain ⟨w1, w2, w3, w4, w5⟩ := e51
              have hc : cX (pE ag) nb ns row = some b := by rw [← hz, pI, if_neg (by rw [hst.2.2.1 b (by omega), e42]; decide), if_pos e23, if_pos ((st_cd hrow hst).mp w5)]
              exact kx2 u9 _ _ ls (st_some hnb hns hrow (by omega) hst e42 w1 w2 w3 w4 hc) h

set_option maxHeartbeats 4000000 in
set_option maxRecDepth 100000 in
theorem p_take (l : Launch) (G : gG) (ad : Nat → Nat) (td tl fd st : Int32) (nb ns : Nat) (bd bl sd sl : Nat → Int32) (so bo : Nat → Option Nat) (ag : Nat → Int32) (rf : Nat → Option Nat) (wt : Nat → Nat) (hnb : nb ≤ 20) (hns : ns ≤ 20) (row : Nat) (hrow : row < nb) (hst : pSt ag nb ns row so bo) : cM l yX4_takeLowest wsX4_takeLowest 4 130 (0) (0) G [.ref (ad 0), .int (nI row)] (pW G ad td tl fd st nb ns bd bl sd sl so bo ag rf wt) (qV G (S := (Nat → Option Nat) × (Nat → Option Nat) × (Nat → Option Nat) × (Nat → Nat)) (fun u => pSt ag nb ns (row + 1) u.1 u.2.1) (fun u => pW G ad td tl fd st nb ns bd bl sd sl u.1 u.2.1 ag u.2.2.1 u.2.2.2)) := by
  refine o_M (cc := cX4_takeLowest) (maxL := 4) (ret := none) (own := RX4) (by decide +kernel) rfl rfl (Nat.le_of_ble_eq_true rfl) ?_
  intro p e s m below meth c A ls H locs hA C h hr hlk hnm hl
  have hx := C.1.1.1
  have hb := C.1.1.2.1
  have hl : lv_has ls 4 [(0, .ref (ad 0)), (1, .int (nI row))] := hl
  refine lv_iconst (v := 0) hx hb dX4_takeLowest_0 (by decide) ?_
  refine lv_cgi (y := (nI 0)) (rfl) ?_
  refine lv_istore_n (lv' := [(2, .int (nI 0)), (0, .ref (ad 0)), (1, .int (nI row))]) hx hb dX4_takeLowest_1 rfl hl (by decide) rfl (fun ls hl => ?_)
  refine lp_X4_take C ad td tl fd st nb ns bd bl sd sl so bo ag hnb hns row hrow hst (fun u H locs ls hs h => ?_) (fun u H locs ls hs h => ?_) ns 0 rf wt _ _ ls (Nat.zero_add _) rfl h (lv_sub hl [1, 2, 0] rfl)
  · exact r_vret C h hr hlk (Nat.zero_le _) (Nat.zero_le _) u hs rfl dX4_takeLowest_61
  · exact r_vret C h hr hlk (Nat.zero_le _) (Nat.zero_le _) u hs rfl dX4_takeLowest_54

theorem st_0 {ag : Nat → Int32} {nb ns : Nat} {so bo : Nat → Option Nat} (h : pJ ag nb ns 0 so bo) : pSt ag nb ns 0 so bo ∧ sz ns bo = kX (pE ag) 0 nb ns (fun _ => false) := by
  have e : kX (pE ag) 0 nb ns (fun _ => false) = sz ns (pRf bo 0) := by
    rw [kX_cg (E2 := pE ag) (tk2 := fun b => pKept bo b 0) (Nat.zero_le _) (fun _ _ _ _ _ => rfl) (fun b _ => (kept_0 bo b).symm)]
    exact Mx_kX (Nat.zero_le _) h.2.2
  exact ⟨⟨h, e, fun b _ => (kept_0 bo b).symm, fun q hq => absurd hq (Nat.not_lt_zero _)⟩, by rw [e, Rf_0]⟩

set_option maxHeartbeats 4000000 in
set_option maxRecDepth 100000 in
theorem lp_X4_settle {p : Program} {l : Launch} {e : Env} {s : State} {m : MethodId} {args : Array Value} {below : List Frame} {meth : Method} {c : Code} {Q : State → Prop} {G : gG} {A : Nat → Prop} (C : gC p m c cX4_settle 2 s args wsX4_settle RX4 G A) (ad : Nat → Nat) (td tl fd st : Int32) (nb ns : Nat) (bd bl sd sl : Nat → Int32) (ag : Nat → Int32) (hnb : nb ≤ 20) (hns : ns ≤ 20) (kx : ∀ (u : (Nat → Option Nat) × (Nat → Option Nat) × (Nat → Option Nat) × (Nat → Nat)) (H : Heap) (locs : List Loc) (ls : Array Slot), pSt ag nb ns nb u.1 u.2.1 → gS G A s (pW G ad td tl fd st nb ns bd bl sd sl u.1 u.2.1 ag u.2.2.1 u.2.2.2) H locs → lv_has ls 2 [(0, .ref (ad 0))] → W p l e (gR 5 160 0 0) s m args below meth c H locs 0 0 Q (F0 m 40 ls [])) :
    ∀ (r : Nat) (row : Nat) (so bo rf : Nat → Option Nat) (wt : Nat → Nat) (H : Heap) (locs : List Loc) (ls : Array Slot), (row + r = nb) → (pSt ag nb ns row so bo) →  gS G A s (pW G ad td tl fd st nb ns bd bl sd sl so bo ag rf wt) H locs → lv_has ls 2 [(0, .ref (ad 0)), (1, .int (nI row))] → W p l e (gR 5 160 0 0) s m args below meth c H locs 0 0 Q (F0 m 18 ls []) := by
  have hx := C.1.1.1
  have hb := C.1.1.2.1
  have wd0 : Cond.fieldLink RX4 12 "ScaleHouse$Pairing" "buyer" "LScaleHouse$Tally;" ∈ wsX4_settle := by decide +kernel
  have hinX4 : ∀ w ∈ wsX40, w ∈ wsX4_settle := fun _ h => List.mem_cons_of_mem _ (List.mem_append_left _ (List.mem_append_right _ h))
  have wd1 : Cond.fieldLinkNest RX4 55 "ScaleHouse$Tally" "size" "I" "ScaleHouse" ∈ nW := by decide +kernel
  have hinX7 : ∀ w ∈ wsX70, w ∈ wsX4_settle := fun _ h => List.mem_cons_of_mem _ (List.mem_append_right _ h)
  intro r
  induction r with
  | zero =>
    intro row so bo rf wt H locs ls hi hst h hl
    refine lv_iload_n hx hb dX4_settle_18 rfl (lv_at hl 1 rfl) ?_
    refine lv_aload_n hx hb dX4_settle_19 rfl (lv_at hl 0 rfl) ?_
    refine r_get C h 0 rfl (Cn := RX4) (T := TX4) (N := 11) rfl hinX4 0 (by decide) (index := 12) (ref := "ScaleHouse$Pairing") wd0 rfl (v := .ref (ad 1)) rfl dX4_settle_20 ?_
    refine r_getN C h 1 rfl (Cn := RX7) (T := TX7) (N := 3) rfl hinX7 2 (by decide) (index := 55) (ref := "ScaleHouse$Tally") wd1 rfl (v := .int (nI nb)) rfl dX4_settle_23 ?_
    refine lv_icmp_ge (tgt := 40) hx hb dX4_settle_26 (by decide) (fun c_26 => ?_) (fun c_26 => ?_)
    · obtain rfl : row = nb := by omega
      exact kx (so, bo, rf, wt) _ _ ls hst h (lv_sub hl [0] rfl)
    · exact absurd (by rw [show row = nb by omega]; exact Int32.le_refl _) c_26
  | succ r ih =>
    intro row so bo rf wt H locs ls hi hst h hl
    refine lv_iload_n hx hb dX4_settle_18 rfl (lv_at hl 1 rfl) ?_
    refine lv_aload_n hx hb dX4_settle_19 rfl (lv_at hl 0 rfl) ?_
    refine r_get C h 0 rfl (Cn := RX4) (T := TX4) (N := 11) rfl hinX4 0 (by decide) (index := 12) (ref := "ScaleHouse$Pairing") wd0 rfl (v := .ref (ad 1)) rfl dX4_settle_20 ?_
    refine r_getN C h 1 rfl (Cn := RX7) (T := TX7) (N := 3) rfl hinX7 2 (by decide) (index := 55) (ref := "ScaleHouse$Tally") wd1 rfl (v := .int (nI nb)) rfl dX4_settle_23 ?_
    refine lv_icmp_ge (tgt := 40) hx hb dX4_settle_26 (by decide) (fun c_26 => ?_) (fun c_26 => ?_)
    · exact absurd c_26 (nI_ge (by omega) (by omega))
    · refine lv_aload_n hx hb dX4_settle_29 rfl (lv_at hl 0 rfl) ?_
      refine lv_iload_n hx hb dX4_settle_30 rfl (lv_at hl 1 rfl) ?_
      have hp : List.Perm (pW G ad td tl fd st nb ns bd bl sd sl so bo ag rf wt : va_W) ([((ad 0), .inr (4, [.ref (ad 1), .ref (ad 4), .ref (ad 7), .ref (ad 8), .ref (ad 9), .ref (ad 10), .ref (ad 11), .int td, .int tl, .int fd, .int st])), ((ad 1), .inr (7, [.ref (ad 2), .ref (ad 3), .int (nI nb)])), ((ad 2), .inl (G.2.2 1, 20, .inl bd)), ((ad 3), .inl (G.2.2 1, 20, .inl bl)), ((ad 4), .inr (7, [.ref (ad 5), .ref (ad 6), .int (nI ns)])), ((ad 5), .inl (G.2.2 1, 20, .inl sd)), ((ad 6), .inl (G.2.2 1, 20, .inl sl)), ((ad 7), .inl (G.2.2 1, 20, .inl (oF so))), ((ad 8), .inl (G.2.2 1, 20, .inl (oF bo))), ((ad 9), .inl (G.2.2 1, 20, .inl ag)), ((ad 10), .inl (G.2.2 1, 20, .inl (oF rf))), ((ad 11), .inl (G.2.2 1, 20, .inl (nF wt)))] ++ []) := pm 12 rfl [0, 1, 2, 3, 4, 5, 6, 7, 8, 9, 10, 11] (by decide +kernel) rfl
      refine k_v C h hp (r_runV C h hp 0 rfl rfl (As := [.int (nI row)]) (rest := []) (p_take l G ad td tl fd st nb ns bd bl sd sl so bo ag rf wt hnb hns row (by omega) hst) (cwV 1 C.1.1.2.2.2.2 gX4_settle_X4_takeLowest rfl rfl rfl (by decide +kernel) ⟨by simp only [gR]; omega, by simp only [gR]; omega⟩) rfl hl.1 (Nat.le_of_ble_eq_true rfl) dX4_settle_31 ⟨Nat.le_of_ble_eq_true rfl, Nat.le_of_ble_eq_true rfl⟩) (fun u9 H locs hw9 h => ?_)
      have h : gS G A s (pW G ad td tl fd st nb ns bd bl sd sl u9.1 u9.2.1 ag u9.2.2.1 u9.2.2.2) H locs := h
      refine W.widen (k := 0) (n := 0) (Nat.le_of_ble_eq_true rfl) (Nat.le_of_ble_eq_true rfl) ?_
      refine lv_iinc (v := nI (row + 1)) (lv' := [(1, .int (nI (row + 1))), (0, .ref (ad 0))]) hx hb dX4_settle_34 hl (k := 1) rfl (nI_1 _) (by decide) rfl (fun ls hl => ?_)
      refine lv_goto (tgt := 18) hx hb dX4_settle_37 (by decide) ?_
      exact ih (row + 1) _ _ _ _ _ _ ls (by omega) hw9 h (lv_sub hl [1, 0] rfl)

theorem cX_ag {E : Nat → Nat → Bool} {nb ns : Nat} {ag : Nat → Int32} (hns : ns ≤ 20) {so bo : Nat → Option Nat} (h : pSt (agR E ns nb ag) nb ns nb so bo) : kX (pE (agR E ns nb ag)) 0 nb ns (fun _ => false) = kX E 0 nb ns (fun _ => false) ∧ ∀ q, q < nb → so q = cX E nb ns q :=
  ⟨kX_cg (Nat.zero_le _) (fun a b _ l2 l3 => agR_E hns a b l2 l3) (fun _ _ => rfl), fun q hq => (h.2.2.2 q hq).trans (cX_cg hq (fun a b l2 l3 => agR_E hns a b l2 l3))⟩

set_option maxHeartbeats 4000000 in
set_option maxRecDepth 100000 in
theorem p_settle0 (l : Launch) (G : gG) (ad : Nat → Nat) (td tl fd : Int32) (nb ns : Nat) (bd bl sd sl : Nat → Int32) (so bo : Nat → Option Nat) (ag : Nat → Int32) (rf : Nat → Option Nat) (wt : Nat → Nat) (hnb : nb ≤ 20) (hns : ns ≤ 20) : cM l yX4_settle wsX4_settle 5 160 (0) (0) G [.ref (ad 0)] (pW G ad td tl fd 0 nb ns bd bl sd sl so bo ag rf wt) (qV G (S := (Nat → Int32) × (Nat → Option Nat) × (Nat → Option Nat) × (Nat → Option Nat) × (Nat → Nat)) (fun u => (∀ q, q < nb → u.2.1 q = cX (hAg td tl bd bl sd sl) nb ns q)) (fun u => pW G ad td tl (nI (kX (hAg td tl bd bl sd sl) 0 nb ns (fun _ => false))) 1 nb ns bd bl sd sl u.2.1 u.2.2.1 u.1 u.2.2.2.1 u.2.2.2.2)) := by
  refine o_M (cc := cX4_settle) (maxL := 2) (ret := none) (own := RX4) (by decide +kernel) rfl rfl (Nat.le_of_ble_eq_true rfl) ?_
  intro p e s m below meth c A ls H locs hA C h hr hlk hnm hl
  have hx := C.1.1.1
  have hb := C.1.1.2.1
  have hl : lv_has ls 2 [(0, .ref (ad 0))] := hl
  have wd0 : Cond.fieldLink RX4 47 "ScaleHouse$Pairing" "settled" "Z" ∈ wsX4_settle := by decide +kernel
  have hinX4 : ∀ w ∈ wsX40, w ∈ wsX4_settle := fun _ h => List.mem_cons_of_mem _ (List.mem_append_left _ (List.mem_append_right _ h))
  refine lv_aload_n hx hb dX4_settle_0 rfl (lv_at hl 0 rfl) ?_
  refine r_get C h 0 rfl (Cn := RX4) (T := TX4) (N := 11) rfl hinX4 10 (by decide) (index := 47) (ref := "ScaleHouse$Pairing") wd0 rfl (v := .int 0) rfl dX4_settle_1 ?_
  refine lv_if_eq (tgt := 8) hx hb dX4_settle_4 (by decide) (fun c_4 => ?_) (fun c_4 => ?_)
  · refine lv_aload_n hx hb dX4_settle_8 rfl (lv_at hl 0 rfl) ?_
    have hp : List.Perm (pW G ad td tl fd 0 nb ns bd bl sd sl so bo ag rf wt : va_W) ([((ad 0), .inr (4, [.ref (ad 1), .ref (ad 4), .ref (ad 7), .ref (ad 8), .ref (ad 9), .ref (ad 10), .ref (ad 11), .int td, .int tl, .int fd, .int 0])), ((ad 1), .inr (7, [.ref (ad 2), .ref (ad 3), .int (nI nb)])), ((ad 2), .inl (G.2.2 1, 20, .inl bd)), ((ad 3), .inl (G.2.2 1, 20, .inl bl)), ((ad 4), .inr (7, [.ref (ad 5), .ref (ad 6), .int (nI ns)])), ((ad 5), .inl (G.2.2 1, 20, .inl sd)), ((ad 6), .inl (G.2.2 1, 20, .inl sl)), ((ad 7), .inl (G.2.2 1, 20, .inl (oF so))), ((ad 8), .inl (G.2.2 1, 20, .inl (oF bo))), ((ad 9), .inl (G.2.2 1, 20, .inl ag)), ((ad 10), .inl (G.2.2 1, 20, .inl (oF rf))), ((ad 11), .inl (G.2.2 1, 20, .inl (nF wt)))] ++ []) := pm 12 rfl [0, 1, 2, 3, 4, 5, 6, 7, 8, 9, 10, 11] (by decide +kernel) rfl
    refine k_v C h hp (r_runV C h hp 0 rfl rfl (As := []) (rest := []) (p_compareRows l G ad td tl fd 0 nb ns bd bl sd sl so bo ag rf wt hnb hns) (cwV 0 C.1.1.2.2.2.2 gX4_settle_X4_compareRows rfl rfl rfl (by decide +kernel) ⟨by simp only [gR]; omega, by simp only [gR]; omega⟩) rfl hl.1 (Nat.le_of_ble_eq_true rfl) dX4_settle_9 ⟨Nat.le_of_ble_eq_true rfl, Nat.le_of_ble_eq_true rfl⟩) (fun u_2 H locs hw_3 h => ?_)
    have h : gS G A s (pW G ad td tl fd 0 nb ns bd bl sd sl so bo (agR (hAg td tl bd bl sd sl) ns nb ag) rf wt) H locs := h
    refine W.widen (k := 0) (n := 0) (Nat.le_of_ble_eq_true rfl) (Nat.le_of_ble_eq_true rfl) ?_
    refine lv_aload_n hx hb dX4_settle_12 rfl (lv_at hl 0 rfl) ?_
    have hp : List.Perm (pW G ad td tl fd 0 nb ns bd bl sd sl so bo (agR (hAg td tl bd bl sd sl) ns nb ag) rf wt : va_W) ([((ad 0), .inr (4, [.ref (ad 1), .ref (ad 4), .ref (ad 7), .ref (ad 8), .ref (ad 9), .ref (ad 10), .ref (ad 11), .int td, .int tl, .int fd, .int 0])), ((ad 1), .inr (7, [.ref (ad 2), .ref (ad 3), .int (nI nb)])), ((ad 2), .inl (G.2.2 1, 20, .inl bd)), ((ad 3), .inl (G.2.2 1, 20, .inl bl)), ((ad 4), .inr (7, [.ref (ad 5), .ref (ad 6), .int (nI ns)])), ((ad 5), .inl (G.2.2 1, 20, .inl sd)), ((ad 6), .inl (G.2.2 1, 20, .inl sl)), ((ad 7), .inl (G.2.2 1, 20, .inl (oF so))), ((ad 8), .inl (G.2.2 1, 20, .inl (oF bo))), ((ad 9), .inl (G.2.2 1, 20, .inl (agR (hAg td tl bd bl sd sl) ns nb ag))), ((ad 10), .inl (G.2.2 1, 20, .inl (oF rf))), ((ad 11), .inl (G.2.2 1, 20, .inl (nF wt)))] ++ []) := pm 12 rfl [0, 1, 2, 3, 4, 5, 6, 7, 8, 9, 10, 11] (by decide +kernel) rfl
    refine k_v C h hp (r_runV C h hp 0 rfl rfl (As := []) (rest := []) (p_find l G ad td tl fd 0 nb ns bd bl sd sl so bo (agR (hAg td tl bd bl sd sl) ns nb ag) rf wt hnb hns) (cwV 0 C.1.1.2.2.2.2 gX4_settle_X4_findAsManyAsCanBe rfl rfl rfl (by decide +kernel) ⟨by simp only [gR]; omega, by simp only [gR]; omega⟩) rfl hl.1 (Nat.le_of_ble_eq_true rfl) dX4_settle_13 ⟨Nat.le_of_ble_eq_true rfl, Nat.le_of_ble_eq_true rfl⟩) (fun u8 H locs hw8 h => ?_)
    have h : gS G A s (pW G ad td tl (nI (sz ns u8.2.1)) 0 nb ns bd bl sd sl u8.1 u8.2.1 (agR (hAg td tl bd bl sd sl) ns nb ag) u8.2.2.1 u8.2.2.2) H locs := h
    refine W.widen (k := 0) (n := 0) (Nat.le_of_ble_eq_true rfl) (Nat.le_of_ble_eq_true rfl) ?_
    refine lv_iconst (v := 0) hx hb dX4_settle_16 (by decide) ?_
    refine lv_cgi (y := (nI 0)) (rfl) ?_
    refine lv_istore_n (lv' := [(1, .int (nI 0)), (0, .ref (ad 0))]) hx hb dX4_settle_17 rfl hl (by decide) rfl (fun ls hl => ?_)
    obtain ⟨hs0, hf0⟩ := st_0 hw8
    rw [hf0] at h
    refine lp_X4_settle C ad td tl (nI (kX (pE (agR (hAg td tl bd bl sd sl) ns nb ag)) 0 nb ns (fun _ => false))) 0 nb ns bd bl sd sl (agR (hAg td tl bd bl sd sl) ns nb ag) hnb hns (fun u H locs ls hs h hl => ?_) nb 0 u8.1 u8.2.1 u8.2.2.1 u8.2.2.2 _ _ ls (Nat.zero_add _) hs0 h (lv_sub hl [1, 0] rfl)
    refine lv_aload_n hx hb dX4_settle_40 rfl (lv_at hl 0 rfl) ?_
    refine lv_iconst (v := 1) hx hb dX4_settle_41 (by decide) ?_
    refine r_put C h 0 rfl (Cn := RX4) (T := TX4) (N := 11) rfl hinX4 tyX4 tyX4_ok nmX4 10 (by decide) (index := 47) (ref := "ScaleHouse$Pairing") wd0 rfl rfl (v := .int 1) rfl rfl (show 10 < 11 by decide) dX4_settle_42 (fun H locs h => ?_)
    have h : gS G A s (pW G ad td tl (nI (kX (pE (agR (hAg td tl bd bl sd sl) ns nb ag)) 0 nb ns (fun _ => false))) 1 nb ns bd bl sd sl u.1 u.2.1 (agR (hAg td tl bd bl sd sl) ns nb ag) u.2.2.1 u.2.2.2) H locs := h
    exact r_vret C h hr hlk (Nat.zero_le _) (Nat.zero_le _) ((agR (hAg td tl bd bl sd sl) ns nb ag), u.1, u.2.1, u.2.2.1, u.2.2.2) ((cX_ag hns hs).2) (by rw [(cX_ag hns hs).1]) dX4_settle_45
  · exact absurd c_4 (by decide)

set_option maxHeartbeats 4000000 in
set_option maxRecDepth 100000 in
theorem p_settle1 (l : Launch) (G : gG) (ad : Nat → Nat) (td tl fd : Int32) (nb ns : Nat) (bd bl sd sl : Nat → Int32) (so bo : Nat → Option Nat) (ag : Nat → Int32) (rf : Nat → Option Nat) (wt : Nat → Nat) : cM l yX4_settle wsX4_settle 5 160 (0) (0) G [.ref (ad 0)] (pW G ad td tl fd 1 nb ns bd bl sd sl so bo ag rf wt) (qV G (S := Unit) (fun _ => True) (fun _ => pW G ad td tl fd 1 nb ns bd bl sd sl so bo ag rf wt)) := by
  refine o_M (cc := cX4_settle) (maxL := 2) (ret := none) (own := RX4) (by decide +kernel) rfl rfl (Nat.le_of_ble_eq_true rfl) ?_
  intro p e s m below meth c A ls H locs hA C h hr hlk hnm hl
  have hx := C.1.1.1
  have hb := C.1.1.2.1
  have hl : lv_has ls 2 [(0, .ref (ad 0))] := hl
  have wd0 : Cond.fieldLink RX4 47 "ScaleHouse$Pairing" "settled" "Z" ∈ wsX4_settle := by decide +kernel
  have hinX4 : ∀ w ∈ wsX40, w ∈ wsX4_settle := fun _ h => List.mem_cons_of_mem _ (List.mem_append_left _ (List.mem_append_right _ h))
  refine lv_aload_n hx hb dX4_settle_0 rfl (lv_at hl 0 rfl) ?_
  refine r_get C h 0 rfl (Cn := RX4) (T := TX4) (N := 11) rfl hinX4 10 (by decide) (index := 47) (ref := "ScaleHouse$Pairing") wd0 rfl (v := .int 1) rfl dX4_settle_1 ?_
  refine lv_if_eq (tgt := 8) hx hb dX4_settle_4 (by decide) (fun c_4 => ?_) (fun c_4 => ?_)
  · exact absurd c_4 (by decide)
  · exact r_vret C h hr hlk (Nat.zero_le _) (Nat.zero_le _) () (trivial) (rfl) dX4_settle_7

set_option maxHeartbeats 4000000 in
set_option maxRecDepth 100000 in
theorem p_addRow0 (l : Launch) (G : gG) (ad : Nat → Nat) (td tl fd st : Int32) (nb ns : Nat) (bd bl sd sl : Nat → Int32) (so bo : Nat → Option Nat) (ag : Nat → Int32) (rf : Nat → Option Nat) (wt : Nat → Nat) (hnb : nb ≤ 20) (hns : ns ≤ 20) (x y : Int32) : cM l yX4_addRow wsX4_addRow 1 40 (0) (0) G [.ref (ad 0), .int 0, .int x, .int y] (pW G ad td tl fd st nb ns bd bl sd sl so bo ag rf wt) (qI G (S := Unit) (fun r _ => r = if nb < 20 then nI nb else -1) (fun _ => pW G ad td tl fd 0 (tyN nb) ns (tyU nb bd x) (tyU nb bl y) sd sl so bo ag rf wt)) := by
  refine o_M (cc := cX4_addRow) (maxL := 4) (ret := (some .int)) (own := RX4) (by decide +kernel) rfl rfl (Nat.le_of_ble_eq_true rfl) ?_
  intro p e s m below meth c A ls H locs hA C h hr hlk hnm hl
  have hx := C.1.1.1
  have hb := C.1.1.2.1
  have hl : lv_has ls 4 [(0, .ref (ad 0)), (1, .int 0), (2, .int x), (3, .int y)] := hl
  have wd0 : Cond.fieldLink RX4 47 "ScaleHouse$Pairing" "settled" "Z" ∈ wsX4_addRow := by decide +kernel
  have hinX4 : ∀ w ∈ wsX40, w ∈ wsX4_addRow := fun _ h => List.mem_cons_of_mem _ (List.mem_append_left _ (List.mem_append_right _ h))
  have wd1 : Cond.fieldLink RX4 12 "ScaleHouse$Pairing" "buyer" "LScaleHouse$Tally;" ∈ wsX4_addRow := by decide +kernel
  refine lv_aload_n hx hb dX4_addRow_0 rfl (lv_at hl 0 rfl) ?_
  refine lv_iconst (v := 0) hx hb dX4_addRow_1 (by decide) ?_
  refine r_put C h 0 rfl (Cn := RX4) (T := TX4) (N := 11) rfl hinX4 tyX4 tyX4_ok nmX4 10 (by decide) (index := 47) (ref := "ScaleHouse$Pairing") wd0 rfl rfl (v := .int 0) rfl rfl (show 10 < 11 by decide) dX4_addRow_2 (fun H locs h => ?_)
  have h : gS G A s (pW G ad td tl fd 0 nb ns bd bl sd sl so bo ag rf wt) H locs := h
  refine lv_iload_n hx hb dX4_addRow_5 rfl (lv_at hl 1 rfl) ?_
  refine lv_if_ne (tgt := 21) hx hb dX4_addRow_6 (by decide) (fun c_6 => ?_) (fun c_6 => ?_)
  · exact absurd c_6 (by decide)
  · refine lv_aload_n hx hb dX4_addRow_9 rfl (lv_at hl 0 rfl) ?_
    refine r_get C h 0 rfl (Cn := RX4) (T := TX4) (N := 11) rfl hinX4 0 (by decide) (index := 12) (ref := "ScaleHouse$Pairing") wd1 rfl (v := .ref (ad 1)) rfl dX4_addRow_10 ?_
    refine lv_iload_n hx hb dX4_addRow_13 rfl (lv_at hl 2 rfl) ?_
    refine lv_iload_n hx hb dX4_addRow_14 rfl (lv_at hl 3 rfl) ?_
    have hp : List.Perm (pW G ad td tl fd 0 nb ns bd bl sd sl so bo ag rf wt : va_W) ([((ad 1), .inr (7, [.ref (ad 2), .ref (ad 3), .int (nI nb)])), ((ad 2), .inl (G.2.2 1, 20, .inl bd)), ((ad 3), .inl (G.2.2 1, 20, .inl bl))] ++ [((ad 0), .inr (4, [.ref (ad 1), .ref (ad 4), .ref (ad 7), .ref (ad 8), .ref (ad 9), .ref (ad 10), .ref (ad 11), .int td, .int tl, .int fd, .int 0])), ((ad 4), .inr (7, [.ref (ad 5), .ref (ad 6), .int (nI ns)])), ((ad 5), .inl (G.2.2 1, 20, .inl sd)), ((ad 6), .inl (G.2.2 1, 20, .inl sl)), ((ad 7), .inl (G.2.2 1, 20, .inl (oF so))), ((ad 8), .inl (G.2.2 1, 20, .inl (oF bo))), ((ad 9), .inl (G.2.2 1, 20, .inl ag)), ((ad 10), .inl (G.2.2 1, 20, .inl (oF rf))), ((ad 11), .inl (G.2.2 1, 20, .inl (nF wt)))]) := pm 12 rfl [1, 2, 3, 0, 4, 5, 6, 7, 8, 9, 10, 11] (by decide +kernel) rfl
    refine k_i C h hp (r_runV C h hp 0 rfl rfl (As := [.int x, .int y]) (rest := []) (y_add l G (ad 1) (ad 2) (ad 3) nb bd bl x y hnb) (cwV 2 C.1.1.2.2.2.2 gX4_addRow_X7_add rfl rfl rfl (by decide +kernel) ⟨by simp only [gR]; omega, by simp only [gR]; omega⟩) rfl hl.1 (Nat.le_of_ble_eq_true rfl) dX4_addRow_15 ⟨Nat.le_of_ble_eq_true rfl, Nat.le_of_ble_eq_true rfl⟩) (fun r_1 u_2 H locs hw_3 h => ?_)
    have h : gS G A s ([((ad 1), .inr (7, [.ref (ad 2), .ref (ad 3), .int (nI (tyN nb))])), ((ad 2), .inl (G.2.2 1, 20, .inl (tyU nb bd x))), ((ad 3), .inl (G.2.2 1, 20, .inl (tyU nb bl y)))] ++ [((ad 0), .inr (4, [.ref (ad 1), .ref (ad 4), .ref (ad 7), .ref (ad 8), .ref (ad 9), .ref (ad 10), .ref (ad 11), .int td, .int tl, .int fd, .int 0])), ((ad 4), .inr (7, [.ref (ad 5), .ref (ad 6), .int (nI ns)])), ((ad 5), .inl (G.2.2 1, 20, .inl sd)), ((ad 6), .inl (G.2.2 1, 20, .inl sl)), ((ad 7), .inl (G.2.2 1, 20, .inl (oF so))), ((ad 8), .inl (G.2.2 1, 20, .inl (oF bo))), ((ad 9), .inl (G.2.2 1, 20, .inl ag)), ((ad 10), .inl (G.2.2 1, 20, .inl (oF rf))), ((ad 11), .inl (G.2.2 1, 20, .inl (nF wt)))]) H locs := h
    have h := gS.perm h (pm 12 rfl [3, 0, 1, 2, 4, 5, 6, 7, 8, 9, 10, 11] (by decide +kernel) rfl : List.Perm ([((ad 1), .inr (7, [.ref (ad 2), .ref (ad 3), .int (nI (tyN nb))])), ((ad 2), .inl (G.2.2 1, 20, .inl (tyU nb bd x))), ((ad 3), .inl (G.2.2 1, 20, .inl (tyU nb bl y)))] ++ [((ad 0), .inr (4, [.ref (ad 1), .ref (ad 4), .ref (ad 7), .ref (ad 8), .ref (ad 9), .ref (ad 10), .ref (ad 11), .int td, .int tl, .int fd, .int 0])), ((ad 4), .inr (7, [.ref (ad 5), .ref (ad 6), .int (nI ns)])), ((ad 5), .inl (G.2.2 1, 20, .inl sd)), ((ad 6), .inl (G.2.2 1, 20, .inl sl)), ((ad 7), .inl (G.2.2 1, 20, .inl (oF so))), ((ad 8), .inl (G.2.2 1, 20, .inl (oF bo))), ((ad 9), .inl (G.2.2 1, 20, .inl ag)), ((ad 10), .inl (G.2.2 1, 20, .inl (oF rf))), ((ad 11), .inl (G.2.2 1, 20, .inl (nF wt)))] : va_W) (pW G ad td tl fd 0 (tyN nb) ns (tyU nb bd x) (tyU nb bl y) sd sl so bo ag rf wt))
    have h : gS G A s (pW G ad td tl fd 0 (tyN nb) ns (tyU nb bd x) (tyU nb bl y) sd sl so bo ag rf wt) H locs := h
    refine W.widen (k := 0) (n := 0) (Nat.le_of_ble_eq_true rfl) (Nat.le_of_ble_eq_true rfl) ?_
    subst hw_3
    refine lv_goto (tgt := 30) hx hb dX4_addRow_18 (by decide) ?_
    exact r_iret C h hr hlk (Nat.zero_le _) (Nat.zero_le _) () (rfl) (rfl) dX4_addRow_30

set_option maxHeartbeats 4000000 in
set_option maxRecDepth 100000 in
theorem p_addRow1 (l : Launch) (G : gG) (ad : Nat → Nat) (td tl fd st : Int32) (nb ns : Nat) (bd bl sd sl : Nat → Int32) (so bo : Nat → Option Nat) (ag : Nat → Int32) (rf : Nat → Option Nat) (wt : Nat → Nat) (hnb : nb ≤ 20) (hns : ns ≤ 20) (x y : Int32) : cM l yX4_addRow wsX4_addRow 1 40 (0) (0) G [.ref (ad 0), .int 1, .int x, .int y] (pW G ad td tl fd st nb ns bd bl sd sl so bo ag rf wt) (qI G (S := Unit) (fun r _ => r = if ns < 20 then nI ns else -1) (fun _ => pW G ad td tl fd 0 nb (tyN ns) bd bl (tyU ns sd x) (tyU ns sl y) so bo ag rf wt)) := by
  refine o_M (cc := cX4_addRow) (maxL := 4) (ret := (some .int)) (own := RX4) (by decide +kernel) rfl rfl (Nat.le_of_ble_eq_true rfl) ?_
  intro p e s m below meth c A ls H locs hA C h hr hlk hnm hl
  have hx := C.1.1.1
  have hb := C.1.1.2.1
  have hl : lv_has ls 4 [(0, .ref (ad 0)), (1, .int 1), (2, .int x), (3, .int y)] := hl
  have wd0 : Cond.fieldLink RX4 47 "ScaleHouse$Pairing" "settled" "Z" ∈ wsX4_addRow := by decide +kernel
  have hinX4 : ∀ w ∈ wsX40, w ∈ wsX4_addRow := fun _ h => List.mem_cons_of_mem _ (List.mem_append_left _ (List.mem_append_right _ h))
  have wd1 : Cond.fieldLink RX4 18 "ScaleHouse$Pairing" "seller" "LScaleHouse$Tally;" ∈ wsX4_addRow := by decide +kernel
  refine lv_aload_n hx hb dX4_addRow_0 rfl (lv_at hl 0 rfl) ?_
  refine lv_iconst (v := 0) hx hb dX4_addRow_1 (by decide) ?_
  refine r_put C h 0 rfl (Cn := RX4) (T := TX4) (N := 11) rfl hinX4 tyX4 tyX4_ok nmX4 10 (by decide) (index := 47) (ref := "ScaleHouse$Pairing") wd0 rfl rfl (v := .int 0) rfl rfl (show 10 < 11 by decide) dX4_addRow_2 (fun H locs h => ?_)
  have h : gS G A s (pW G ad td tl fd 0 nb ns bd bl sd sl so bo ag rf wt) H locs := h
  refine lv_iload_n hx hb dX4_addRow_5 rfl (lv_at hl 1 rfl) ?_
  refine lv_if_ne (tgt := 21) hx hb dX4_addRow_6 (by decide) (fun c_6 => ?_) (fun c_6 => ?_)
  · refine lv_aload_n hx hb dX4_addRow_21 rfl (lv_at hl 0 rfl) ?_
    refine r_get C h 0 rfl (Cn := RX4) (T := TX4) (N := 11) rfl hinX4 1 (by decide) (index := 18) (ref := "ScaleHouse$Pairing") wd1 rfl (v := .ref (ad 4)) rfl dX4_addRow_22 ?_
    refine lv_iload_n hx hb dX4_addRow_25 rfl (lv_at hl 2 rfl) ?_
    refine lv_iload_n hx hb dX4_addRow_26 rfl (lv_at hl 3 rfl) ?_
    have hp : List.Perm (pW G ad td tl fd 0 nb ns bd bl sd sl so bo ag rf wt : va_W) ([((ad 4), .inr (7, [.ref (ad 5), .ref (ad 6), .int (nI ns)])), ((ad 5), .inl (G.2.2 1, 20, .inl sd)), ((ad 6), .inl (G.2.2 1, 20, .inl sl))] ++ [((ad 0), .inr (4, [.ref (ad 1), .ref (ad 4), .ref (ad 7), .ref (ad 8), .ref (ad 9), .ref (ad 10), .ref (ad 11), .int td, .int tl, .int fd, .int 0])), ((ad 1), .inr (7, [.ref (ad 2), .ref (ad 3), .int (nI nb)])), ((ad 2), .inl (G.2.2 1, 20, .inl bd)), ((ad 3), .inl (G.2.2 1, 20, .inl bl)), ((ad 7), .inl (G.2.2 1, 20, .inl (oF so))), ((ad 8), .inl (G.2.2 1, 20, .inl (oF bo))), ((ad 9), .inl (G.2.2 1, 20, .inl ag)), ((ad 10), .inl (G.2.2 1, 20, .inl (oF rf))), ((ad 11), .inl (G.2.2 1, 20, .inl (nF wt)))]) := pm 12 rfl [4, 5, 6, 0, 1, 2, 3, 7, 8, 9, 10, 11] (by decide +kernel) rfl
    refine k_i C h hp (r_runV C h hp 0 rfl rfl (As := [.int x, .int y]) (rest := []) (y_add l G (ad 4) (ad 5) (ad 6) ns sd sl x y hns) (cwV 2 C.1.1.2.2.2.2 gX4_addRow_X7_add rfl rfl rfl (by decide +kernel) ⟨by simp only [gR]; omega, by simp only [gR]; omega⟩) rfl hl.1 (Nat.le_of_ble_eq_true rfl) dX4_addRow_27 ⟨Nat.le_of_ble_eq_true rfl, Nat.le_of_ble_eq_true rfl⟩) (fun r_1 u_2 H locs hw_3 h => ?_)
    have h : gS G A s ([((ad 4), .inr (7, [.ref (ad 5), .ref (ad 6), .int (nI (tyN ns))])), ((ad 5), .inl (G.2.2 1, 20, .inl (tyU ns sd x))), ((ad 6), .inl (G.2.2 1, 20, .inl (tyU ns sl y)))] ++ [((ad 0), .inr (4, [.ref (ad 1), .ref (ad 4), .ref (ad 7), .ref (ad 8), .ref (ad 9), .ref (ad 10), .ref (ad 11), .int td, .int tl, .int fd, .int 0])), ((ad 1), .inr (7, [.ref (ad 2), .ref (ad 3), .int (nI nb)])), ((ad 2), .inl (G.2.2 1, 20, .inl bd)), ((ad 3), .inl (G.2.2 1, 20, .inl bl)), ((ad 7), .inl (G.2.2 1, 20, .inl (oF so))), ((ad 8), .inl (G.2.2 1, 20, .inl (oF bo))), ((ad 9), .inl (G.2.2 1, 20, .inl ag)), ((ad 10), .inl (G.2.2 1, 20, .inl (oF rf))), ((ad 11), .inl (G.2.2 1, 20, .inl (nF wt)))]) H locs := h
    have h := gS.perm h (pm 12 rfl [3, 4, 5, 6, 0, 1, 2, 7, 8, 9, 10, 11] (by decide +kernel) rfl : List.Perm ([((ad 4), .inr (7, [.ref (ad 5), .ref (ad 6), .int (nI (tyN ns))])), ((ad 5), .inl (G.2.2 1, 20, .inl (tyU ns sd x))), ((ad 6), .inl (G.2.2 1, 20, .inl (tyU ns sl y)))] ++ [((ad 0), .inr (4, [.ref (ad 1), .ref (ad 4), .ref (ad 7), .ref (ad 8), .ref (ad 9), .ref (ad 10), .ref (ad 11), .int td, .int tl, .int fd, .int 0])), ((ad 1), .inr (7, [.ref (ad 2), .ref (ad 3), .int (nI nb)])), ((ad 2), .inl (G.2.2 1, 20, .inl bd)), ((ad 3), .inl (G.2.2 1, 20, .inl bl)), ((ad 7), .inl (G.2.2 1, 20, .inl (oF so))), ((ad 8), .inl (G.2.2 1, 20, .inl (oF bo))), ((ad 9), .inl (G.2.2 1, 20, .inl ag)), ((ad 10), .inl (G.2.2 1, 20, .inl (oF rf))), ((ad 11), .inl (G.2.2 1, 20, .inl (nF wt)))] : va_W) (pW G ad td tl fd 0 nb (tyN ns) bd bl (tyU ns sd x) (tyU ns sl y) so bo ag rf wt))
    have h : gS G A s (pW G ad td tl fd 0 nb (tyN ns) bd bl (tyU ns sd x) (tyU ns sl y) so bo ag rf wt) H locs := h
    refine W.widen (k := 0) (n := 0) (Nat.le_of_ble_eq_true rfl) (Nat.le_of_ble_eq_true rfl) ?_
    subst hw_3
    exact r_iret C h hr hlk (Nat.zero_le _) (Nat.zero_le _) () (rfl) (rfl) dX4_addRow_30
  · exact absurd c_6 (by decide)

set_option maxHeartbeats 4000000 in
set_option maxRecDepth 100000 in
theorem p_removeRows (l : Launch) (G : gG) (ad : Nat → Nat) (td tl fd st : Int32) (nb ns : Nat) (bd bl sd sl : Nat → Int32) (so bo : Nat → Option Nat) (ag : Nat → Int32) (rf : Nat → Option Nat) (wt : Nat → Nat) : cM l yX4_removeRows wsX4_removeRows 1 40 (0) (0) G [.ref (ad 0)] (pW G ad td tl fd st nb ns bd bl sd sl so bo ag rf wt) (qV G (S := Unit) (fun _ => True) (fun _ => pW G ad td tl fd 0 0 0 bd bl sd sl so bo ag rf wt)) := by
  refine o_M (cc := cX4_removeRows) (maxL := 1) (ret := none) (own := RX4) (by decide +kernel) rfl rfl (Nat.le_of_ble_eq_true rfl) ?_
  intro p e s m below meth c A ls H locs hA C h hr hlk hnm hl
  have hx := C.1.1.1
  have hb := C.1.1.2.1
  have hl : lv_has ls 1 [(0, .ref (ad 0))] := hl
  have wd0 : Cond.fieldLink RX4 47 "ScaleHouse$Pairing" "settled" "Z" ∈ wsX4_removeRows := by decide +kernel
  have hinX4 : ∀ w ∈ wsX40, w ∈ wsX4_removeRows := fun _ h => List.mem_cons_of_mem _ (List.mem_append_left _ (List.mem_append_right _ h))
  have wd1 : Cond.fieldLink RX4 12 "ScaleHouse$Pairing" "buyer" "LScaleHouse$Tally;" ∈ wsX4_removeRows := by decide +kernel
  have wd2 : Cond.fieldLinkNest RX4 55 "ScaleHouse$Tally" "size" "I" "ScaleHouse" ∈ nW := by decide +kernel
  have hinX7 : ∀ w ∈ wsX70, w ∈ wsX4_removeRows := fun _ h => List.mem_cons_of_mem _ (List.mem_append_right _ h)
  have wd3 : Cond.fieldLink RX4 18 "ScaleHouse$Pairing" "seller" "LScaleHouse$Tally;" ∈ wsX4_removeRows := by decide +kernel
  refine lv_aload_n hx hb dX4_removeRows_0 rfl (lv_at hl 0 rfl) ?_
  refine lv_iconst (v := 0) hx hb dX4_removeRows_1 (by decide) ?_
  refine r_put C h 0 rfl (Cn := RX4) (T := TX4) (N := 11) rfl hinX4 tyX4 tyX4_ok nmX4 10 (by decide) (index := 47) (ref := "ScaleHouse$Pairing") wd0 rfl rfl (v := .int 0) rfl rfl (show 10 < 11 by decide) dX4_removeRows_2 (fun H locs h => ?_)
  have h : gS G A s (pW G ad td tl fd 0 nb ns bd bl sd sl so bo ag rf wt) H locs := h
  refine lv_aload_n hx hb dX4_removeRows_5 rfl (lv_at hl 0 rfl) ?_
  refine r_get C h 0 rfl (Cn := RX4) (T := TX4) (N := 11) rfl hinX4 0 (by decide) (index := 12) (ref := "ScaleHouse$Pairing") wd1 rfl (v := .ref (ad 1)) rfl dX4_removeRows_6 ?_
  refine lv_iconst (v := 0) hx hb dX4_removeRows_9 (by decide) ?_
  refine lv_cgi (y := (nI 0)) (rfl) ?_
  refine r_putN C h 1 rfl (Cn := RX7) (T := TX7) (N := 3) rfl hinX7 tyX7 tyX7_ok nmX7 2 (by decide) (index := 55) (ref := "ScaleHouse$Tally") wd2 rfl rfl (v := .int (nI 0)) rfl rfl (show 2 < 3 by decide) dX4_removeRows_10 (fun H locs h => ?_)
  have h : gS G A s (pW G ad td tl fd 0 0 ns bd bl sd sl so bo ag rf wt) H locs := h
  refine lv_aload_n hx hb dX4_removeRows_13 rfl (lv_at hl 0 rfl) ?_
  refine r_get C h 0 rfl (Cn := RX4) (T := TX4) (N := 11) rfl hinX4 1 (by decide) (index := 18) (ref := "ScaleHouse$Pairing") wd3 rfl (v := .ref (ad 4)) rfl dX4_removeRows_14 ?_
  refine lv_iconst (v := 0) hx hb dX4_removeRows_17 (by decide) ?_
  refine lv_cgi (y := (nI 0)) (rfl) ?_
  refine r_putN C h 4 rfl (Cn := RX7) (T := TX7) (N := 3) rfl hinX7 tyX7 tyX7_ok nmX7 2 (by decide) (index := 55) (ref := "ScaleHouse$Tally") wd2 rfl rfl (v := .int (nI 0)) rfl rfl (show 2 < 3 by decide) dX4_removeRows_18 (fun H locs h => ?_)
  have h : gS G A s (pW G ad td tl fd 0 0 0 bd bl sd sl so bo ag rf wt) H locs := h
  exact r_vret C h hr hlk (Nat.zero_le _) (Nat.zero_le _) () (trivial) (rfl) dX4_removeRows_21

set_option maxHeartbeats 4000000 in
set_option maxRecDepth 100000 in
theorem p_setApart (l : Launch) (G : gG) (ad : Nat → Nat) (td tl fd st : Int32) (nb ns : Nat) (bd bl sd sl : Nat → Int32) (so bo : Nat → Option Nat) (ag : Nat → Int32) (rf : Nat → Option Nat) (wt : Nat → Nat) (x y : Int32) : cM l yX4_setApart wsX4_setApart 1 40 (0) (0) G [.ref (ad 0), .int x, .int y] (pW G ad td tl fd st nb ns bd bl sd sl so bo ag rf wt) (qV G (S := Unit) (fun _ => True) (fun _ => pW G ad x y fd 0 nb ns bd bl sd sl so bo ag rf wt)) := by
  refine o_M (cc := cX4_setApart) (maxL := 3) (ret := none) (own := RX4) (by decide +kernel) rfl rfl (Nat.le_of_ble_eq_true rfl) ?_
  intro p e s m below meth c A ls H locs hA C h hr hlk hnm hl
  have hx := C.1.1.1
  have hb := C.1.1.2.1
  have hl : lv_has ls 3 [(0, .ref (ad 0)), (1, .int x), (2, .int y)] := hl
  have wd0 : Cond.fieldLink RX4 47 "ScaleHouse$Pairing" "settled" "Z" ∈ wsX4_setApart := by decide +kernel
  have hinX4 : ∀ w ∈ wsX40, w ∈ wsX4_setApart := fun _ h => List.mem_cons_of_mem _ (List.mem_append_right _ h)
  have wd1 : Cond.fieldLink RX4 37 "ScaleHouse$Pairing" "td" "I" ∈ wsX4_setApart := by decide +kernel
  have wd2 : Cond.fieldLink RX4 41 "ScaleHouse$Pairing" "tl" "I" ∈ wsX4_setApart := by decide +kernel
  refine lv_aload_n hx hb dX4_setApart_0 rfl (lv_at hl 0 rfl) ?_
  refine lv_iconst (v := 0) hx hb dX4_setApart_1 (by decide) ?_
  refine r_put C h 0 rfl (Cn := RX4) (T := TX4) (N := 11) rfl hinX4 tyX4 tyX4_ok nmX4 10 (by decide) (index := 47) (ref := "ScaleHouse$Pairing") wd0 rfl rfl (v := .int 0) rfl rfl (show 10 < 11 by decide) dX4_setApart_2 (fun H locs h => ?_)
  have h : gS G A s (pW G ad td tl fd 0 nb ns bd bl sd sl so bo ag rf wt) H locs := h
  refine lv_aload_n hx hb dX4_setApart_5 rfl (lv_at hl 0 rfl) ?_
  refine lv_iload_n hx hb dX4_setApart_6 rfl (lv_at hl 1 rfl) ?_
  refine r_put C h 0 rfl (Cn := RX4) (T := TX4) (N := 11) rfl hinX4 tyX4 tyX4_ok nmX4 7 (by decide) (index := 37) (ref := "ScaleHouse$Pairing") wd1 rfl rfl (v := .int x) rfl rfl (show 7 < 11 by decide) dX4_setApart_7 (fun H locs h => ?_)
  have h : gS G A s (pW G ad x tl fd 0 nb ns bd bl sd sl so bo ag rf wt) H locs := h
  refine lv_aload_n hx hb dX4_setApart_10 rfl (lv_at hl 0 rfl) ?_
  refine lv_iload_n hx hb dX4_setApart_11 rfl (lv_at hl 2 rfl) ?_
  refine r_put C h 0 rfl (Cn := RX4) (T := TX4) (N := 11) rfl hinX4 tyX4 tyX4_ok nmX4 8 (by decide) (index := 41) (ref := "ScaleHouse$Pairing") wd2 rfl rfl (v := .int y) rfl rfl (show 8 < 11 by decide) dX4_setApart_12 (fun H locs h => ?_)
  have h : gS G A s (pW G ad x y fd 0 nb ns bd bl sd sl so bo ag rf wt) H locs := h
  exact r_vret C h hr hlk (Nat.zero_le _) (Nat.zero_le _) () (trivial) (rfl) dX4_setApart_15
