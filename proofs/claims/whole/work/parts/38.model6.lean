/-! ===== the reference: finding pairs ===== -/
def bF (t : Nat → Bool) : Nat → Int32 := fun j => if t j = true then 1 else 0
theorem bF_up (t : Nat → Bool) (k : Nat) (v : Bool) : upd (bF t) k (if v = true then 1 else 0) = bF (va_up t k v) := by
  funext j; unfold upd bF va_up; split <;> rfl
theorem bF_0 {t : Nat → Bool} {j : Nat} : bF t j = 0 ↔ t j = false := by
  unfold bF
  cases t j
  · exact ⟨fun _ => rfl, fun _ => rfl⟩
  · exact ⟨fun h => absurd h (by decide), fun h => tf h⟩
theorem bF_1 {t : Nat → Bool} {j : Nat} (h : ¬ bF t j = 0) : t j = true := by
  cases e : t j with
  | true => rfl
  | false => exact absurd (bF_0.mpr e) h
theorem bi_0 {b : Bool} : (if b = true then (1 : Int32) else 0) = 0 ↔ b = false := by
  cases b
  · exact ⟨fun _ => rfl, fun _ => rfl⟩
  · exact ⟨fun h => absurd h (by decide), fun h => tf h⟩
theorem bi_1 {b : Bool} (h : ¬ (if b = true then (1 : Int32) else 0) = 0) : b = true := by
  cases e : b with
  | true => rfl
  | false => exact absurd (bi_0.mpr e) h
abbrev flg {α : Type} (v : α) (n : Nat) (f : Nat → α) : Nat → α := fun j => if j < n then v else f j
theorem flg_s {α : Type} (v : α) (n : Nat) (f : Nat → α) : va_up (flg v n f) n v = flg v (n + 1) f := by
  funext j
  unfold va_up flg
  by_cases e : j = n
  · rw [if_pos e, if_pos (by omega)]
  · rw [if_neg e]
    by_cases e2 : j < n
    · rw [if_pos e2, if_pos (by omega)]
    · rw [if_neg e2, if_neg (by omega)]
theorem flg_0 {α : Type} (v : α) (f : Nat → α) : flg v 0 f = f := by
  funext j
  exact if_neg (Nat.not_lt_zero j)
def mE (I : Nat → Int32) (F : Nat → Nat → Int32) (a b : Nat) : Bool := decide (¬ mAgr I F a b = 0)
theorem kF_rg (E : Nat → Nat → Bool) (tk : Nat → Bool) (nb N d a : Nat) (s : KS) (h : ∀ b x, b < nb → s.1 b = some x → x < N) (ha : a < N) : ∀ b x, b < nb → (kF E tk nb d a s).2.1 b = some x → x < N := by
  intro b x hb hx
  have hA := kF_A E tk nb d a s
  have hC := kF_C E tk nb d a s
  cases hz : (kF E tk nb d a s).1 with
  | false => rw [hA.2 hz] at hx; exact h b x hb hx
  | true =>
    rcases (hC hz).2 b hb with w | ⟨_, x', e, _, w⟩
    · rw [w] at hx; exact h b x hb hx
    · rw [hx] at e
      cases e
      rcases w with w | ⟨c, hc, w⟩
      · rw [w]; exact ha
      · exact h c x hc w

set_option maxHeartbeats 4000000 in
set_option maxRecDepth 100000 in
theorem lp_X10_finds {p : Program} {l : Launch} {e : Env} {s9 : State} {m : MethodId} {args : Array Value} {below : List Frame} {meth : Method} {c : Code} {Q : State → Prop} {G : gG} {A : Nat → Prop} (C : gC p m c cX10_finds 3 s9 args wsX10_finds RX10 G A) (ad : Nat → Nat) (I : Nat → Int32) (F : Nat → Nat → Int32) (rw : Nat) (gd gl : Int64) (tk : Nat → Bool) (na nb : Nat) (hna : F 40 0 = nI na) (hnb : F 40 1 = nI nb) (hna2 : na ≤ 20) (hnb2 : nb ≤ 20) (d a : Nat) (ha : a < 20) (hrec : ∀ x s, un nb s.2 < d → (∀ b x, b < nb → s.1 b = some x → x < 20) → x < 20 → cM l yX10_finds wsX10_finds (d + 2) (25 * d + 60) 0 0 G [.ref (ad 0), .int (nI x)] (mW G ad I (va_up (va_up (va_up F 42 (bF tk)) 41 (oF s.1)) 43 (bF s.2)) rw gd gl) (qI G (S := Unit) (fun r _ => r = if (kF (mE I F) tk nb d x s).1 = true then 1 else 0) (fun _ => mW G ad I (va_up (va_up (va_up F 42 (bF tk)) 41 (oF (kF (mE I F) tk nb d x s).2.1)) 43 (bF (kF (mE I F) tk nb d x s).2.2)) rw gd gl))) (z : Bool × KS) (kx1 : ∀ (H : Heap) (locs : List Loc) (ls : Array Slot), z.1 = false → gS G A s9 (mW G ad I (va_up (va_up (va_up F 42 (bF tk)) 41 (oF z.2.1)) 43 (bF z.2.2)) rw gd gl) H locs → W p l e (gR (d + 1 + 2) (25 * (d + 1) + 60) 0 0) s9 m args below meth c H locs 0 0 Q (F0 m 87 ls [])) (kx2 : ∀ (H : Heap) (locs : List Loc) (ls : Array Slot), z.1 = true → gS G A s9 (mW G ad I (va_up (va_up (va_up F 42 (bF tk)) 41 (oF z.2.1)) 43 (bF z.2.2)) rw gd gl) H locs → W p l e (gR (d + 1 + 2) (25 * (d + 1) + 60) 0 0) s9 m args below meth c H locs 0 0 Q (F0 m 79 ls [])) :
    ∀ (r : Nat) (b : Nat) (s : KS) (H : Heap) (locs : List Loc) (ls : Array Slot), (b + r = nb) → (un nb s.2 < d + 1) → (∀ b x, b < nb → s.1 b = some x → x < 20) → (kL (mE I F) tk (kF (mE I F) tk nb d) a r b s = z) →  gS G A s9 (mW G ad I (va_up (va_up (va_up F 42 (bF tk)) 41 (oF s.1)) 43 (bF s.2)) rw gd gl) H locs → lv_has ls 3 [(0, .ref (ad 0)), (1, .int (nI a)), (2, .int (nI b))] → W p l e (gR (d + 1 + 2) (25 * (d + 1) + 60) 0 0) s9 m args below meth c H locs 0 0 Q (F0 m 2 ls []) := by
  have hx := C.1.1.1
  have hb := C.1.1.2.1
  have wd0 : Cond.fieldLink RX10 86 "ScaleHouseModel" "rows" "[I" ∈ wsX10_finds := by decide +kernel
  have hinX10 : ∀ w ∈ wsX100, w ∈ wsX10_finds := fun _ h => List.mem_cons_of_mem _ (List.mem_append_right _ h)
  have wd1 : Cond.fieldLink RX10 92 "ScaleHouseModel" "isTaken" "[Z" ∈ wsX10_finds := by decide +kernel
  have wd2 : Cond.fieldLink RX10 96 "ScaleHouseModel" "isTried" "[Z" ∈ wsX10_finds := by decide +kernel
  have wd3 : Cond.fieldLink RX10 89 "ScaleHouseModel" "has" "[I" ∈ wsX10_finds := by decide +kernel
  intro r
  induction r with
  | zero =>
    intro b s H locs ls hi hu hrg hz h hl
    refine lv_iload_n hx hb dX10_finds_2 rfl (lv_at hl 2 rfl) ?_
    refine lv_aload_n hx hb dX10_finds_3 rfl (lv_at hl 0 rfl) ?_
    refine r_get C h 0 rfl (Cn := RX10) (T := TX10) (N := 50) rfl hinX10 40 (by decide) (index := 86) (ref := "ScaleHouseModel") wd0 rfl (v := .ref (ad 40)) rfl dX10_finds_4 ?_
    refine lv_iconst (v := 1) hx hb dX10_finds_7 (by decide) ?_
    refine r_iald C h 25 rfl (i := 1) (by unfold vp_in; decide) dX10_finds_8 ?_
    refine lv_cgi (y := ((F 40) (1 : Int32).toNatClampNeg)) rfl ?_
    refine lv_cgi (y := (nI nb)) (hnb) ?_
    refine lv_icmp_ge (tgt := 87) hx hb dX10_finds_9 (by decide) (fun c_9 => ?_) (fun c_9 => ?_)
    · have hz9 : (false, s) = z := hz
      subst hz9
      exact kx1 _ _ ls rfl h
    · exact absurd (by rw [show b = nb by omega]; exact Int32.le_refl _) c_9
  | succ r ih =>
    intro b s H locs ls hi hu hrg hz h hl
    refine lv_iload_n hx hb dX10_finds_2 rfl (lv_at hl 2 rfl) ?_
    refine lv_aload_n hx hb dX10_finds_3 rfl (lv_at hl 0 rfl) ?_
    refine r_get C h 0 rfl (Cn := RX10) (T := TX10) (N := 50) rfl hinX10 40 (by decide) (index := 86) (ref := "ScaleHouseModel") wd0 rfl (v := .ref (ad 40)) rfl dX10_finds_4 ?_
    refine lv_iconst (v := 1) hx hb dX10_finds_7 (by decide) ?_
    refine r_iald C h 25 rfl (i := 1) (by unfold vp_in; decide) dX10_finds_8 ?_
    refine lv_cgi (y := ((F 40) (1 : Int32).toNatClampNeg)) rfl ?_
    refine lv_cgi (y := (nI nb)) (hnb) ?_
    refine lv_icmp_ge (tgt := 87) hx hb dX10_finds_9 (by decide) (fun c_9 => ?_) (fun c_9 => ?_)
    · exact absurd c_9 (nI_ge (by omega) (by omega))
    · refine lv_aload_n hx hb dX10_finds_12 rfl (lv_at hl 0 rfl) ?_
      refine r_get C h 0 rfl (Cn := RX10) (T := TX10) (N := 50) rfl hinX10 42 (by decide) (index := 92) (ref := "ScaleHouseModel") wd1 rfl (v := .ref (ad 42)) rfl dX10_finds_13 ?_
      refine lv_iload_n hx hb dX10_finds_16 rfl (lv_at hl 2 rfl) ?_
      refine r_zald C h 27 rfl (i := (nI b)) (vp_in_nI (by omega) (by decide)) dX10_finds_17 ?_
      refine lv_cgi (y := ((bF tk) (nI b).toNatClampNeg)) rfl ?_
      refine lv_cgi (y := (bF tk b)) (nn_at (bF tk) (by omega)) ?_
      refine lv_if_ne (tgt := 81) hx hb dX10_finds_18 (by decide) (fun c_18 => ?_) (fun c_18 => ?_)
      · have e18 := bF_1 c_18
        refine lv_iinc (v := nI (b + 1)) (lv' := [(2, .int (nI (b + 1))), (0, .ref (ad 0)), (1, .int (nI a))]) hx hb dX10_finds_81 hl (k := 2) rfl (nI_1 _) (by decide) rfl (fun ls hl => ?_)
        refine lv_goto (tgt := 2) hx hb dX10_finds_84 (by decide) ?_
        exact ih (b + 1) s _ _ ls (by omega) hu hrg (by rw [← hz, kL, if_pos e18]) h (lv_sub hl [1, 2, 0] rfl)
      · have e18 : ¬ tk b = true := fun z9 => by rw [bF_0.mp c_18] at z9; exact ft z9
        refine lv_aload_n hx hb dX10_finds_21 rfl (lv_at hl 0 rfl) ?_
        refine r_get C h 0 rfl (Cn := RX10) (T := TX10) (N := 50) rfl hinX10 43 (by decide) (index := 96) (ref := "ScaleHouseModel") wd2 rfl (v := .ref (ad 43)) rfl dX10_finds_22 ?_
        refine lv_iload_n hx hb dX10_finds_25 rfl (lv_at hl 2 rfl) ?_
        refine r_zald C h 28 rfl (i := (nI b)) (vp_in_nI (by omega) (by decide)) dX10_finds_26 ?_
        refine lv_cgi (y := ((bF s.2) (nI b).toNatClampNeg)) rfl ?_
        refine lv_cgi (y := (bF s.2 b)) (nn_at (bF s.2) (by omega)) ?_
        refine lv_if_ne (tgt := 81) hx hb dX10_finds_27 (by decide) (fun c_27 => ?_) (fun c_27 => ?_)
        · have e27 := bF_1 c_27
          refine lv_iinc (v := nI (b + 1)) (lv' := [(2, .int (nI (b + 1))), (0, .ref (ad 0)), (1, .int (nI a))]) hx hb dX10_finds_81 hl (k := 2) rfl (nI_1 _) (by decide) rfl (fun ls hl => ?_)
          refine lv_goto (tgt := 2) hx hb dX10_finds_84 (by decide) ?_
          exact ih (b + 1) s _ _ ls (by omega) hu hrg (by rw [← hz, kL, if_neg e18, if_pos e27]) h (lv_sub hl [1, 2, 0] rfl)
        · have e27f := bF_0.mp c_27
          have e27 : ¬ s.2 b = true := fun z9 => by rw [e27f] at z9; exact ft z9
          have hu1 := un_up (nb := nb) (t := s.2) (b := b) (by omega) e27f
          refine lv_aload_n hx hb dX10_finds_30 rfl (lv_at hl 0 rfl) ?_
          refine lv_iload_n hx hb dX10_finds_31 rfl (lv_at hl 1 rfl) ?_
          refine lv_iload_n hx hb dX10_finds_32 rfl (lv_at hl 2 rfl) ?_
          have hp : List.Perm (mW G ad I (va_up (va_up (va_up F 42 (bF tk)) 41 (oF s.1)) 43 (bF s.2)) rw gd gl : va_W) ([((ad 0), .inr (10, [.int (I 0), .ref (ad 1), .ref (ad 2), .ref (ad 3), .ref (ad 4), .ref (ad 5), .ref (ad 6), .ref (ad 7), .ref (ad 8), .ref (ad 9), .ref (ad 10), .ref (ad 11), .ref (ad 12), .ref (ad 13), .ref (ad 14), .ref (ad 15), .ref (ad 16), .ref (ad 17), .ref (ad 18), .ref (ad 19), .ref (ad 20), .ref (ad 21), .ref (ad 22), .int (I 23), .int (I 24), .int (I 25), .int (I 26), .int (I 27), .int (I 28), .int (I 29), .ref rw, .int (I 31), .int (I 32), .int (I 33), .int (I 34), .int (I 35), .long gd, .long gl, .ref (ad 38), .ref (ad 39), .ref (ad 40), .ref (ad 41), .ref (ad 42), .ref (ad 43), .int (I 44), .int (I 45), .int (I 46), .int (I 47), .int (I 48), .int (I 49)])), ((ad 1), .inl (G.2.2 0, 120, .inl (F 1))), ((ad 2), .inl (G.2.2 0, 2400, .inl (F 2))), ((ad 3), .inl (G.2.2 1, 20, .inl (F 3))), ((ad 4), .inl (G.2.2 1, 20, .inl (F 4))), ((ad 5), .inl (G.2.2 1, 20, .inl (F 5))), ((ad 6), .inl (G.2.2 1, 60, .inl (F 6))), ((ad 7), .inl (G.2.2 1, 60, .inl (F 7))), ((ad 8), .inl (G.2.2 1, 60, .inl (F 8))), ((ad 9), .inl (G.2.2 1, 60, .inl (F 9))), ((ad 10), .inl (G.2.2 1, 100, .inl (F 10))), ((ad 11), .inl (G.2.2 1, 100, .inl (F 11))), ((ad 12), .inl (G.2.2 1, 100, .inl (F 12))), ((ad 13), .inl (G.2.2 1, 100, .inl (F 13))), ((ad 14), .inl (G.2.2 1, 100, .inl (F 14))), ((ad 15), .inl (G.2.2 1, 100, .inl (F 15))), ((ad 16), .inl (G.2.2 1, 100, .inl (F 16))), ((ad 17), .inl (G.2.2 1, 100, .inl (F 17))), ((ad 18), .inl (G.2.2 1, 100, .inl (F 18))), ((ad 19), .inl (G.2.2 1, 6, .inl (F 19))), ((ad 20), .inl (G.2.2 1, 20000, .inl (F 20))), ((ad 21), .inl (G.2.2 1, 20000, .inl (F 21))), ((ad 22), .inl (G.2.2 1, 20000, .inl (F 22))), ((ad 38), .inl (G.2.2 1, 40, .inl (F 38))), ((ad 39), .inl (G.2.2 1, 40, .inl (F 39))), ((ad 40), .inl (G.2.2 1, 2, .inl (F 40))), ((ad 41), .inl (G.2.2 1, 20, .inl (oF s.1))), ((ad 42), .inl (G.2.2 3, 20, .inl (bF tk))), ((ad 43), .inl (G.2.2 3, 20, .inl (bF s.2)))] ++ []) := pm 29 rfl [0, 1, 2, 3, 4, 5, 6, 7, 8, 9, 10, 11, 12, 13, 14, 15, 16, 17, 18, 19, 20, 21, 22, 23, 24, 25, 26, 27, 28] (by decide +kernel) rfl
          refine k_i C h hp (r_runV C h hp 0 rfl rfl (As := [.int (nI a), .int (nI b)]) (rest := []) (m_agree l G ad I (va_up (va_up (va_up F 42 (bF tk)) 41 (oF s.1)) 43 (bF s.2)) rw gd gl a b (by omega) (by omega)) (cwV 2 C.1.1.2.2.2.2 gX10_finds_X10_agree rfl rfl rfl (by decide +kernel) ⟨by simp only [gR]; omega, by simp only [gR]; omega⟩) rfl hl.1 (Nat.le_of_ble_eq_true rfl) dX10_finds_33 ⟨Nat.le_of_ble_eq_true rfl, Nat.le_of_ble_eq_true rfl⟩) (fun r_3 u_4 H locs hw_5 h => ?_)
          have h : gS G A s9 (mW G ad I (va_up (va_up (va_up F 42 (bF tk)) 41 (oF s.1)) 43 (bF s.2)) rw gd gl) H locs := h
          refine W.widen (k := 0) (n := 0) (Nat.le_of_ble_eq_true rfl) (Nat.le_of_ble_eq_true rfl) ?_
          rw [show mAgr I (va_up (va_up (va_up F 42 (bF tk)) 41 (oF s.1)) 43 (bF s.2)) a b = mAgr I F a b from rfl] at hw_5
          subst hw_5
          refine lv_if_ne (tgt := 42) hx hb dX10_finds_36 (by decide) (fun c_36 => ?_) (fun c_36 => ?_)
          · have e36 : mE I F a b = true := decide_eq_true c_36
            refine lv_aload_n hx hb dX10_finds_42 rfl (lv_at hl 0 rfl) ?_
            refine r_get C h 0 rfl (Cn := RX10) (T := TX10) (N := 50) rfl hinX10 43 (by decide) (index := 96) (ref := "ScaleHouseModel") wd2 rfl (v := .ref (ad 43)) rfl dX10_finds_43 ?_
            refine lv_iload_n hx hb dX10_finds_46 rfl (lv_at hl 2 rfl) ?_
            refine lv_iconst (v := 1) hx hb dX10_finds_47 (by decide) ?_
            refine r_zast C h 28 rfl (i := (nI b)) (vp_in_nI (by omega) (by decide)) dX10_finds_48 (fun H locs h => ?_)
            have h : gS G A s9 (mW G ad I (va_up (va_up (va_up F 42 (bF tk)) 41 (oF s.1)) 43 (upd (bF s.2) (nI b).toNatClampNeg (vp_nar .boolean 1))) rw gd gl) H locs := h
            rw [show (upd (bF s.2) (nI b).toNatClampNeg (vp_nar .boolean 1)) = (bF (va_up s.2 b true)) from by rw [nI_clamp (by omega)]; exact bF_up s.2 b true] at h
            have h : gS G A s9 (mW G ad I (va_up (va_up (va_up F 42 (bF tk)) 41 (oF s.1)) 43 (bF (va_up s.2 b true))) rw gd gl) H locs := h
            refine lv_aload_n hx hb dX10_finds_49 rfl (lv_at hl 0 rfl) ?_
            refine r_get C h 0 rfl (Cn := RX10) (T := TX10) (N := 50) rfl hinX10 41 (by decide) (index := 89) (ref := "ScaleHouseModel") wd3 rfl (v := .ref (ad 41)) rfl dX10_finds_50 ?_
            refine lv_iload_n hx hb dX10_finds_53 rfl (lv_at hl 2 rfl) ?_
            refine r_iald C h 26 rfl (i := (nI b)) (vp_in_nI (by omega) (by decide)) dX10_finds_54 ?_
            refine lv_cgi (y := ((oF s.1) (nI b).toNatClampNeg)) rfl ?_
            refine lv_cgi (y := (oI (s.1 b))) (nn_at (oF s.1) (by omega)) ?_
            refine lv_iconst (v := -1) hx hb dX10_finds_55 (by decide) ?_
            refine lv_icmp_eq (tgt := 72) hx hb dX10_finds_56 (by decide) (fun c_56 => ?_) (fun c_56 => ?_)
            · have e56 : s.1 b = none := (oI_m1 (fun k z => by have := hrg b k (by omega) z; omega)).mp c_56
              refine lv_aload_n hx hb dX10_finds_72 rfl (lv_at hl 0 rfl) ?_
              refine r_get C h 0 rfl (Cn := RX10) (T := TX10) (N := 50) rfl hinX10 41 (by decide) (index := 89) (ref := "ScaleHouseModel") wd3 rfl (v := .ref (ad 41)) rfl dX10_finds_73 ?_
              refine lv_iload_n hx hb dX10_finds_76 rfl (lv_at hl 2 rfl) ?_
              refine lv_iload_n hx hb dX10_finds_77 rfl (lv_at hl 1 rfl) ?_
              refine r_iast C h 26 rfl (i := (nI b)) (vp_in_nI (by omega) (by decide)) dX10_finds_78 (fun H locs h => ?_)
              have h : gS G A s9 (mW G ad I (va_up (va_up (va_up F 42 (bF tk)) 41 (upd (oF s.1) (nI b).toNatClampNeg (nI a))) 43 (bF (va_up s.2 b true))) rw gd gl) H locs := h
              rw [show (upd (oF s.1) (nI b).toNatClampNeg (nI a)) = (oF (va_up s.1 b (some a))) from by rw [nI_clamp (by omega), ← oI_s, oF_up]] at h
              have h : gS G A s9 (mW G ad I (va_up (va_up (va_up F 42 (bF tk)) 41 (oF (va_up s.1 b (some a)))) 43 (bF (va_up s.2 b true))) rw gd gl) H locs := h
              have hz9 : (true, (va_up s.1 b (some a), va_up s.2 b true)) = z := by rw [← hz, kL, if_neg e18, if_neg e27, if_pos e36, e56]
              subst hz9
              exact kx2 _ _ ls rfl h
            · obtain ⟨x, e56⟩ : ∃ x, s.1 b = some x := Option.ne_none_iff_exists'.mp (fun z => c_56 (by rw [z]; rfl))
              have hx20 := hrg b x (by omega) e56
              refine lv_aload_n hx hb dX10_finds_59 rfl (lv_at hl 0 rfl) ?_
              refine lv_aload_n hx hb dX10_finds_60 rfl (lv_at hl 0 rfl) ?_
              refine r_get C h 0 rfl (Cn := RX10) (T := TX10) (N := 50) rfl hinX10 41 (by decide) (index := 89) (ref := "ScaleHouseModel") wd3 rfl (v := .ref (ad 41)) rfl dX10_finds_61 ?_
              refine lv_iload_n hx hb dX10_finds_64 rfl (lv_at hl 2 rfl) ?_
              refine r_iald C h 26 rfl (i := (nI b)) (vp_in_nI (by omega) (by decide)) dX10_finds_65 ?_
              refine lv_cgi (y := ((oF s.1) (nI b).toNatClampNeg)) rfl ?_
              refine lv_cgi (y := (nI x)) (by rw [nn_at (oF s.1) (by omega)]; exact congrArg oI e56) ?_
              have hp : List.Perm (mW G ad I (va_up (va_up (va_up F 42 (bF tk)) 41 (oF s.1)) 43 (bF (va_up s.2 b true))) rw gd gl : va_W) ([((ad 0), .inr (10, [.int (I 0), .ref (ad 1), .ref (ad 2), .ref (ad 3), .ref (ad 4), .ref (ad 5), .ref (ad 6), .ref (ad 7), .ref (ad 8), .ref (ad 9), .ref (ad 10), .ref (ad 11), .ref (ad 12), .ref (ad 13), .ref (ad 14), .ref (ad 15), .ref (ad 16), .ref (ad 17), .ref (ad 18), .ref (ad 19), .ref (ad 20), .ref (ad 21), .ref (ad 22), .int (I 23), .int (I 24), .int (I 25), .int (I 26), .int (I 27), .int (I 28), .int (I 29), .ref rw, .int (I 31), .int (I 32), .int (I 33), .int (I 34), .int (I 35), .long gd, .long gl, .ref (ad 38), .ref (ad 39), .ref (ad 40), .ref (ad 41), .ref (ad 42), .ref (ad 43), .int (I 44), .int (I 45), .int (I 46), .int (I 47), .int (I 48), .int (I 49)])), ((ad 1), .inl (G.2.2 0, 120, .inl (F 1))), ((ad 2), .inl (G.2.2 0, 2400, .inl (F 2))), ((ad 3), .inl (G.2.2 1, 20, .inl (F 3))), ((ad 4), .inl (G.2.2 1, 20, .inl (F 4))), ((ad 5), .inl (G.2.2 1, 20, .inl (F 5))), ((ad 6), .inl (G.2.2 1, 60, .inl (F 6))), ((ad 7), .inl (G.2.2 1, 60, .inl (F 7))), ((ad 8), .inl (G.2.2 1, 60, .inl (F 8))), ((ad 9), .inl (G.2.2 1, 60, .inl (F 9))), ((ad 10), .inl (G.2.2 1, 100, .inl (F 10))), ((ad 11), .inl (G.2.2 1, 100, .inl (F 11))), ((ad 12), .inl (G.2.2 1, 100, .inl (F 12))), ((ad 13), .inl (G.2.2 1, 100, .inl (F 13))), ((ad 14), .inl (G.2.2 1, 100, .inl (F 14))), ((ad 15), .inl (G.2.2 1, 100, .inl (F 15))), ((ad 16), .inl (G.2.2 1, 100, .inl (F 16))), ((ad 17), .inl (G.2.2 1, 100, .inl (F 17))), ((ad 18), .inl (G.2.2 1, 100, .inl (F 18))), ((ad 19), .inl (G.2.2 1, 6, .inl (F 19))), ((ad 20), .inl (G.2.2 1, 20000, .inl (F 20))), ((ad 21), .inl (G.2.2 1, 20000, .inl (F 21))), ((ad 22), .inl (G.2.2 1, 20000, .inl (F 22))), ((ad 38), .inl (G.2.2 1, 40, .inl (F 38))), ((ad 39), .inl (G.2.2 1, 40, .inl (F 39))), ((ad 40), .inl (G.2.2 1, 2, .inl (F 40))), ((ad 41), .inl (G.2.2 1, 20, .inl (oF s.1))), ((ad 42), .inl (G.2.2 3, 20, .inl (bF tk))), ((ad 43), .inl (G.2.2 3, 20, .inl (bF (va_up s.2 b true))))] ++ []) := pm 29 rfl [0, 1, 2, 3, 4, 5, 6, 7, 8, 9, 10, 11, 12, 13, 14, 15, 16, 17, 18, 19, 20, 21, 22, 23, 24, 25, 26, 27, 28] (by decide +kernel) rfl
              refine k_i C h hp (r_runV C h hp 0 rfl rfl (As := [.int (nI x)]) (rest := []) (hrec x (s.1, va_up s.2 b true) (by show un nb (va_up s.2 b true) < d; omega) hrg hx20) (cwV 1 C.1.1.2.2.2.2 gX10_finds_X10_finds rfl rfl rfl (by decide +kernel) ⟨by simp only [gR]; omega, by simp only [gR]; omega⟩) rfl hl.1 (Nat.le_of_ble_eq_true rfl) dX10_finds_66 ⟨Nat.le_of_ble_eq_true rfl, Nat.le_of_ble_eq_true rfl⟩) (fun r_6 u_7 H locs hw_8 h => ?_)
              subst hw_8
              have hyA := kF_A (mE I F) tk nb d x (s.1, va_up s.2 b true)
              have hyR := kF_rg (mE I F) tk nb 20 d x (s.1, va_up s.2 b true) (hrg) (by omega)
              generalize ey : (kF (mE I F) tk nb d x (s.1, va_up s.2 b true)) = y at h hyA hyR ⊢
              have h : gS G A s9 (mW G ad I (va_up (va_up (va_up F 42 (bF tk)) 41 (oF y.2.1)) 43 (bF y.2.2)) rw gd gl) H locs := h
              refine W.widen (k := 0) (n := 0) (Nat.le_of_ble_eq_true rfl) (Nat.le_of_ble_eq_true rfl) ?_
              refine lv_if_eq (tgt := 81) hx hb dX10_finds_69 (by decide) (fun c_69 => ?_) (fun c_69 => ?_)
              · have e69 : y.1 = false := bi_0.mp c_69
                refine lv_iinc (v := nI (b + 1)) (lv' := [(2, .int (nI (b + 1))), (0, .ref (ad 0)), (1, .int (nI a))]) hx hb dX10_finds_81 hl (k := 2) rfl (nI_1 _) (by decide) rfl (fun ls hl => ?_)
                refine lv_goto (tgt := 2) hx hb dX10_finds_84 (by decide) ?_
                exact ih (b + 1) y.2 _ _ ls (by omega) (Nat.lt_of_le_of_lt (un_mono (t := va_up s.2 b true) (fun c hc => (hyA.1 c hc).1)) (by omega)) hyR (by rw [← hz, kL, if_neg e18, if_neg e27, if_pos e36, e56]; simp only [ey, e69, Bool.false_eq_true, if_false]) h (lv_sub hl [1, 2, 0] rfl)
              · have e69 : y.1 = true := bi_1 c_69
                refine lv_aload_n hx hb dX10_finds_72 rfl (lv_at hl 0 rfl) ?_
                refine r_get C h 0 rfl (Cn := RX10) (T := TX10) (N := 50) rfl hinX10 41 (by decide) (index := 89) (ref := "ScaleHouseModel") wd3 rfl (v := .ref (ad 41)) rfl dX10_finds_73 ?_
                refine lv_iload_n hx hb dX10_finds_76 rfl (lv_at hl 2 rfl) ?_
                refine lv_iload_n hx hb dX10_finds_77 rfl (lv_at hl 1 rfl) ?_
                refine r_iast C h 26 rfl (i := (nI b)) (vp_in_nI (by omega) (by decide)) dX10_finds_78 (fun H locs h => ?_)
                have h : gS G A s9 (mW G ad I (va_up (va_up (va_up F 42 (bF tk)) 41 (upd (oF y.2.1) (nI b).toNatClampNeg (nI a))) 43 (bF y.2.2)) rw gd gl) H locs := h
                rw [show (upd (oF y.2.1) (nI b).toNatClampNeg (nI a)) = (oF (va_up y.2.1 b (some a))) from by rw [nI_clamp (by omega), ← oI_s, oF_up]] at h
                have h : gS G A s9 (mW G ad I (va_up (va_up (va_up F 42 (bF tk)) 41 (oF (va_up y.2.1 b (some a)))) 43 (bF y.2.2)) rw gd gl) H locs := h
                have hz9 : (true, (va_up y.2.1 b (some a), y.2.2)) = z := by rw [← hz, kL, if_neg e18, if_neg e27, if_pos e36, e56]; simp only [ey, e69, if_true]
                subst hz9
                exact kx2 _ _ ls rfl h
          · have e36 : ¬ mE I F a b = true := fun z9 => (of_decide_eq_true z9) c_36
            refine lv_goto (tgt := 81) hx hb dX10_finds_39 (by decide) ?_
            refine lv_iinc (v := nI (b + 1)) (lv' := [(2, .int (nI (b + 1))), (0, .ref (ad 0)), (1, .int (nI a))]) hx hb dX10_finds_81 hl (k := 2) rfl (nI_1 _) (by decide) rfl (fun ls hl => ?_)
            refine lv_goto (tgt := 2) hx hb dX10_finds_84 (by decide) ?_
            exact ih (b + 1) s _ _ ls (by omega) hu hrg (by rw [← hz, kL, if_neg e18, if_neg e27, if_neg e36]) h (lv_sub hl [1, 2, 0] rfl)

set_option maxHeartbeats 4000000 in
set_option maxRecDepth 100000 in
theorem m_finds (l : Launch) (G : gG) (ad : Nat → Nat) (I : Nat → Int32) (F : Nat → Nat → Int32) (rw : Nat) (gd gl : Int64) (tk : Nat → Bool) (na nb : Nat) (hna : F 40 0 = nI na) (hnb : F 40 1 = nI nb) (hna2 : na ≤ 20) (hnb2 : nb ≤ 20) (d a : Nat) (s : KS) (ha : a < 20) (hu : un nb s.2 < d + 1) (hrg : ∀ b x, b < nb → s.1 b = some x → x < 20) (hrec : ∀ x s, un nb s.2 < d → (∀ b x, b < nb → s.1 b = some x → x < 20) → x < 20 → cM l yX10_finds wsX10_finds (d + 2) (25 * d + 60) 0 0 G [.ref (ad 0), .int (nI x)] (mW G ad I (va_up (va_up (va_up F 42 (bF tk)) 41 (oF s.1)) 43 (bF s.2)) rw gd gl) (qI G (S := Unit) (fun r _ => r = if (kF (mE I F) tk nb d x s).1 = true then 1 else 0) (fun _ => mW G ad I (va_up (va_up (va_up F 42 (bF tk)) 41 (oF (kF (mE I F) tk nb d x s).2.1)) 43 (bF (kF (mE I F) tk nb d x s).2.2)) rw gd gl))) : cM l yX10_finds wsX10_finds (d + 1 + 2) (25 * (d + 1) + 60) (0) (0) G [.ref (ad 0), .int (nI a)] (mW G ad I (va_up (va_up (va_up F 42 (bF tk)) 41 (oF s.1)) 43 (bF s.2)) rw gd gl) (qI G (S := Unit) (fun r _ => r = if (kF (mE I F) tk nb (d + 1) a s).1 = true then 1 else 0) (fun _ => mW G ad I (va_up (va_up (va_up F 42 (bF tk)) 41 (oF (kF (mE I F) tk nb (d + 1) a s).2.1)) 43 (bF (kF (mE I F) tk nb (d + 1) a s).2.2)) rw gd gl)) := by
  refine o_M (cc := cX10_finds) (maxL := 3) (ret := (some .boolean)) (own := RX10) (by decide +kernel) rfl rfl (Nat.le_of_ble_eq_true rfl) ?_
  intro p e s9 m below meth c A ls H locs hA C h hr hlk hnm hl
  have hx := C.1.1.1
  have hb := C.1.1.2.1
  have hl : lv_has ls 3 [(0, .ref (ad 0)), (1, .int (nI a))] := hl
  refine lv_iconst (v := 0) hx hb dX10_finds_0 (by decide) ?_
  refine lv_istore_n (lv' := [(2, .int 0), (0, .ref (ad 0)), (1, .int (nI a))]) hx hb dX10_finds_1 rfl hl (by decide) rfl (fun ls hl => ?_)
  refine lp_X10_finds C ad I F rw gd gl tk na nb hna hnb hna2 hnb2 d a ha hrec (kF (mE I F) tk nb (d + 1) a s) (fun H locs ls ez h => ?_) (fun H locs ls ez h => ?_) nb 0 s _ _ ls (Nat.zero_add _) hu hrg rfl h (lv_sub hl [1, 2, 0] rfl)
  · refine lv_iconst (v := 0) hx hb dX10_finds_87 (by decide) ?_
    exact r_zret C h hr hlk (Nat.zero_le _) (Nat.zero_le _) (Or.inl rfl) () (by rw [ez]; rfl) rfl dX10_finds_88
  · refine lv_iconst (v := 1) hx hb dX10_finds_79 (by decide) ?_
    exact r_zret C h hr hlk (Nat.zero_le _) (Nat.zero_le _) (Or.inr rfl) () (by rw [ez]; rfl) rfl dX10_finds_80

theorem m_findsAll (l : Launch) (G : gG) (ad : Nat → Nat) (I : Nat → Int32) (F : Nat → Nat → Int32) (rw : Nat) (gd gl : Int64) (tk : Nat → Bool) (na nb : Nat) (hna : F 40 0 = nI na) (hnb : F 40 1 = nI nb) (hna2 : na ≤ 20) (hnb2 : nb ≤ 20) : ∀ (d a : Nat) (s : KS), un nb s.2 < d → (∀ b x, b < nb → s.1 b = some x → x < 20) → a < 20 → cM l yX10_finds wsX10_finds (d + 2) (25 * d + 60) 0 0 G [.ref (ad 0), .int (nI a)] (mW G ad I (va_up (va_up (va_up F 42 (bF tk)) 41 (oF s.1)) 43 (bF s.2)) rw gd gl) (qI G (S := Unit) (fun r _ => r = if (kF (mE I F) tk nb d a s).1 = true then 1 else 0) (fun _ => mW G ad I (va_up (va_up (va_up F 42 (bF tk)) 41 (oF (kF (mE I F) tk nb d a s).2.1)) 43 (bF (kF (mE I F) tk nb d a s).2.2)) rw gd gl))
  | 0, a, s, h, _, _ => absurd h (Nat.not_lt_zero _)
  | d + 1, a, s, h, hrg, ha => m_finds l G ad I F rw gd gl tk na nb hna hnb hna2 hnb2 d a s ha h hrg (fun x s h1 h2 h3 => m_findsAll l G ad I F rw gd gl tk na nb hna hnb hna2 hnb2 d x s h1 h2 h3)

set_option maxHeartbeats 4000000 in
set_option maxRecDepth 100000 in
theorem lp_X10_mostFrom1 {p : Program} {l : Launch} {e : Env} {R : Room} {s : State} {m : MethodId} {args : Array Value} {below : List Frame} {meth : Method} {c : Code} {cells slots : Nat} {Q : State → Prop} {G : gG} {A : Nat → Prop} (C : gC p m c cX10_mostFrom 5 s args wsX10_mostFrom RX10 G A) (ad : Nat → Nat) (I : Nat → Int32) (F : Nat → Nat → Int32) (rw : Nat) (gd gl : Int64) (tk : Nat → Bool) (na nb : Nat) (hna : F 40 0 = nI na) (hnb : F 40 1 = nI nb) (hna2 : na ≤ 20) (hnb2 : nb ≤ 20) (f : Nat) (h0 : Nat → Option Nat) (t0 : Nat → Bool) (kx : ∀ (H : Heap) (locs : List Loc) (ls : Array Slot), gS G A s (mW G ad I (va_up (va_up (va_up F 42 (bF tk)) 41 (oF (flg none nb h0))) 43 (bF t0)) rw gd gl) H locs → lv_has ls 5 [(0, .ref (ad 0)), (1, .int (nI f))] → W p l e R s m args below meth c H locs cells slots Q (F0 m 25 ls [])) :
    ∀ (r : Nat) (i : Nat) (H : Heap) (locs : List Loc) (ls : Array Slot), (i + r = nb) →  gS G A s (mW G ad I (va_up (va_up (va_up F 42 (bF tk)) 41 (oF (flg none i h0))) 43 (bF t0)) rw gd gl) H locs → lv_has ls 5 [(0, .ref (ad 0)), (1, .int (nI f)), (2, .int (nI i))] → W p l e R s m args below meth c H locs cells slots Q (F0 m 2 ls []) := by
  have hx := C.1.1.1
  have hb := C.1.1.2.1
  have wd0 : Cond.fieldLink RX10 86 "ScaleHouseModel" "rows" "[I" ∈ wsX10_mostFrom := by decide +kernel
  have hinX10 : ∀ w ∈ wsX100, w ∈ wsX10_mostFrom := fun _ h => List.mem_cons_of_mem _ (List.mem_append_right _ h)
  have wd1 : Cond.fieldLink RX10 89 "ScaleHouseModel" "has" "[I" ∈ wsX10_mostFrom := by decide +kernel
  intro r
  induction r with
  | zero =>
    intro i H locs ls hi h hl
    refine lv_iload_n hx hb dX10_mostFrom_2 rfl (lv_at hl 2 rfl) ?_
    refine lv_aload_n hx hb dX10_mostFrom_3 rfl (lv_at hl 0 rfl) ?_
    refine r_get C h 0 rfl (Cn := RX10) (T := TX10) (N := 50) rfl hinX10 40 (by decide) (index := 86) (ref := "ScaleHouseModel") wd0 rfl (v := .ref (ad 40)) rfl dX10_mostFrom_4 ?_
    refine lv_iconst (v := 1) hx hb dX10_mostFrom_7 (by decide) ?_
    refine r_iald C h 25 rfl (i := 1) (by unfold vp_in; decide) dX10_mostFrom_8 ?_
    refine lv_cgi (y := ((F 40) (1 : Int32).toNatClampNeg)) rfl ?_
    refine lv_cgi (y := (nI nb)) (hnb) ?_
    refine lv_icmp_ge (tgt := 25) hx hb dX10_mostFrom_9 (by decide) (fun c_9 => ?_) (fun c_9 => ?_)
    · obtain rfl : i = nb := by omega
      exact kx _ _ ls h (lv_sub hl [0, 1] rfl)
    · exact absurd (by rw [show i = nb by omega]; exact Int32.le_refl _) c_9
  | succ r ih =>
    intro i H locs ls hi h hl
    refine lv_iload_n hx hb dX10_mostFrom_2 rfl (lv_at hl 2 rfl) ?_
    refine lv_aload_n hx hb dX10_mostFrom_3 rfl (lv_at hl 0 rfl) ?_
    refine r_get C h 0 rfl (Cn := RX10) (T := TX10) (N := 50) rfl hinX10 40 (by decide) (index := 86) (ref := "ScaleHouseModel") wd0 rfl (v := .ref (ad 40)) rfl dX10_mostFrom_4 ?_
    refine lv_iconst (v := 1) hx hb dX10_mostFrom_7 (by decide) ?_
    refine r_iald C h 25 rfl (i := 1) (by unfold vp_in; decide) dX10_mostFrom_8 ?_
    refine lv_cgi (y := ((F 40) (1 : Int32).toNatClampNeg)) rfl ?_
    refine lv_cgi (y := (nI nb)) (hnb) ?_
    refine lv_icmp_ge (tgt := 25) hx hb dX10_mostFrom_9 (by decide) (fun c_9 => ?_) (fun c_9 => ?_)
    · exact absurd c_9 (nI_ge (by omega) (by omega))
    · refine lv_aload_n hx hb dX10_mostFrom_12 rfl (lv_at hl 0 rfl) ?_
      refine r_get C h 0 rfl (Cn := RX10) (T := TX10) (N := 50) rfl hinX10 41 (by decide) (index := 89) (ref := "ScaleHouseModel") wd1 rfl (v := .ref (ad 41)) rfl dX10_mostFrom_13 ?_
      refine lv_iload_n hx hb dX10_mostFrom_16 rfl (lv_at hl 2 rfl) ?_
      refine lv_iconst (v := -1) hx hb dX10_mostFrom_17 (by decide) ?_
      refine r_iast C h 26 rfl (i := (nI i)) (vp_in_nI (by omega) (by decide)) dX10_mostFrom_18 (fun H locs h => ?_)
      have h : gS G A s (mW G ad I (va_up (va_up (va_up F 42 (bF tk)) 41 (upd (oF (flg none i h0)) (nI i).toNatClampNeg (-1))) 43 (bF t0)) rw gd gl) H locs := h
      rw [show (upd (oF (flg none i h0)) (nI i).toNatClampNeg (-1)) = (oF (flg none (i + 1) h0)) from by rw [nI_clamp (by omega), ← oI_n, oF_up, flg_s]] at h
      have h : gS G A s (mW G ad I (va_up (va_up (va_up F 42 (bF tk)) 41 (oF (flg none (i + 1) h0))) 43 (bF t0)) rw gd gl) H locs := h
      refine lv_iinc (v := nI (i + 1)) (lv' := [(2, .int (nI (i + 1))), (0, .ref (ad 0)), (1, .int (nI f))]) hx hb dX10_mostFrom_19 hl (k := 2) rfl (nI_1 _) (by decide) rfl (fun ls hl => ?_)
      refine lv_goto (tgt := 2) hx hb dX10_mostFrom_22 (by decide) ?_
      exact ih (i + 1) _ _ ls (by omega) h (lv_sub hl [1, 2, 0] rfl)

set_option maxHeartbeats 4000000 in
set_option maxRecDepth 100000 in
theorem lp_X10_mostFrom3 {p : Program} {l : Launch} {e : Env} {R : Room} {s : State} {m : MethodId} {args : Array Value} {below : List Frame} {meth : Method} {c : Code} {cells slots : Nat} {Q : State → Prop} {G : gG} {A : Nat → Prop} (C : gC p m c cX10_mostFrom 5 s args wsX10_mostFrom RX10 G A) (ad : Nat → Nat) (I : Nat → Int32) (F : Nat → Nat → Int32) (rw : Nat) (gd gl : Int64) (tk : Nat → Bool) (na nb : Nat) (hna : F 40 0 = nI na) (hnb : F 40 1 = nI nb) (hna2 : na ≤ 20) (hnb2 : nb ≤ 20) (n a : Nat) (h0 : Nat → Option Nat) (t0 : Nat → Bool) (kx : ∀ (H : Heap) (locs : List Loc) (ls : Array Slot), gS G A s (mW G ad I (va_up (va_up (va_up F 42 (bF tk)) 41 (oF h0)) 43 (bF (flg false nb t0))) rw gd gl) H locs → lv_has ls 5 [(0, .ref (ad 0)), (2, .int (nI n)), (3, .int (nI a))] → W p l e R s m args below meth c H locs cells slots Q (F0 m 67 ls [])) :
    ∀ (r : Nat) (i : Nat) (H : Heap) (locs : List Loc) (ls : Array Slot), (i + r = nb) →  gS G A s (mW G ad I (va_up (va_up (va_up F 42 (bF tk)) 41 (oF h0)) 43 (bF (flg false i t0))) rw gd gl) H locs → lv_has ls 5 [(0, .ref (ad 0)), (2, .int (nI n)), (3, .int (nI a)), (4, .int (nI i))] → W p l e R s m args below meth c H locs cells slots Q (F0 m 42 ls []) := by
  have hx := C.1.1.1
  have hb := C.1.1.2.1
  have wd0 : Cond.fieldLink RX10 86 "ScaleHouseModel" "rows" "[I" ∈ wsX10_mostFrom := by decide +kernel
  have hinX10 : ∀ w ∈ wsX100, w ∈ wsX10_mostFrom := fun _ h => List.mem_cons_of_mem _ (List.mem_append_right _ h)
  have wd1 : Cond.fieldLink RX10 96 "ScaleHouseModel" "isTried" "[Z" ∈ wsX10_mostFrom := by decide +kernel
  intro r
  induction r with
  | zero =>
    intro i H locs ls hi h hl
    refine lv_iload hx hb dX10_mostFrom_42 (lv_at hl 3 rfl) ?_
    refine lv_aload_n hx hb dX10_mostFrom_44 rfl (lv_at hl 0 rfl) ?_
    refine r_get C h 0 rfl (Cn := RX10) (T := TX10) (N := 50) rfl hinX10 40 (by decide) (index := 86) (ref := "ScaleHouseModel") wd0 rfl (v := .ref (ad 40)) rfl dX10_mostFrom_45 ?_
    refine lv_iconst (v := 1) hx hb dX10_mostFrom_48 (by decide) ?_
    refine r_iald C h 25 rfl (i := 1) (by unfold vp_in; decide) dX10_mostFrom_49 ?_
    refine lv_cgi (y := ((F 40) (1 : Int32).toNatClampNeg)) rfl ?_
    refine lv_cgi (y := (nI nb)) (hnb) ?_
    refine lv_icmp_ge (tgt := 67) hx hb dX10_mostFrom_50 (by decide) (fun c_50 => ?_) (fun c_50 => ?_)
    · obtain rfl : i = nb := by omega
      exact kx _ _ ls h (lv_sub hl [0, 1, 2] rfl)
    · exact absurd (by rw [show i = nb by omega]; exact Int32.le_refl _) c_50
  | succ r ih =>
    intro i H locs ls hi h hl
    refine lv_iload hx hb dX10_mostFrom_42 (lv_at hl 3 rfl) ?_
    refine lv_aload_n hx hb dX10_mostFrom_44 rfl (lv_at hl 0 rfl) ?_
    refine r_get C h 0 rfl (Cn := RX10) (T := TX10) (N := 50) rfl hinX10 40 (by decide) (index := 86) (ref := "ScaleHouseModel") wd0 rfl (v := .ref (ad 40)) rfl dX10_mostFrom_45 ?_
    refine lv_iconst (v := 1) hx hb dX10_mostFrom_48 (by decide) ?_
    refine r_iald C h 25 rfl (i := 1) (by unfold vp_in; decide) dX10_mostFrom_49 ?_
    refine lv_cgi (y := ((F 40) (1 : Int32).toNatClampNeg)) rfl ?_
    refine lv_cgi (y := (nI nb)) (hnb) ?_
    refine lv_icmp_ge (tgt := 67) hx hb dX10_mostFrom_50 (by decide) (fun c_50 => ?_) (fun c_50 => ?_)
    · exact absurd c_50 (nI_ge (by omega) (by omega))
    · refine lv_aload_n hx hb dX10_mostFrom_53 rfl (lv_at hl 0 rfl) ?_
      refine r_get C h 0 rfl (Cn := RX10) (T := TX10) (N := 50) rfl hinX10 43 (by decide) (index := 96) (ref := "ScaleHouseModel") wd1 rfl (v := .ref (ad 43)) rfl dX10_mostFrom_54 ?_
      refine lv_iload hx hb dX10_mostFrom_57 (lv_at hl 3 rfl) ?_
      refine lv_iconst (v := 0) hx hb dX10_mostFrom_59 (by decide) ?_
      refine r_zast C h 28 rfl (i := (nI i)) (vp_in_nI (by omega) (by decide)) dX10_mostFrom_60 (fun H locs h => ?_)
      have h : gS G A s (mW G ad I (va_up (va_up (va_up F 42 (bF tk)) 41 (oF h0)) 43 (upd (bF (flg false i t0)) (nI i).toNatClampNeg (vp_nar .boolean 0))) rw gd gl) H locs := h
      rw [show (upd (bF (flg false i t0)) (nI i).toNatClampNeg (vp_nar .boolean 0)) = (bF (flg false (i + 1) t0)) from by rw [nI_clamp (by omega), ← flg_s]; exact bF_up _ i false] at h
      have h : gS G A s (mW G ad I (va_up (va_up (va_up F 42 (bF tk)) 41 (oF h0)) 43 (bF (flg false (i + 1) t0))) rw gd gl) H locs := h
      refine lv_iinc (v := nI (i + 1)) (lv' := [(4, .int (nI (i + 1))), (0, .ref (ad 0)), (2, .int (nI n)), (3, .int (nI a))]) hx hb dX10_mostFrom_61 hl (k := 3) rfl (nI_1 _) (by decide) rfl (fun ls hl => ?_)
      refine lv_goto (tgt := 42) hx hb dX10_mostFrom_64 (by decide) ?_
      exact ih (i + 1) _ _ ls (by omega) h (lv_sub hl [1, 2, 3, 0] rfl)

set_option maxHeartbeats 4000000 in
set_option maxRecDepth 100000 in
theorem lp_X10_mostFrom2 {p : Program} {l : Launch} {e : Env} {s9 : State} {m : MethodId} {args : Array Value} {below : List Frame} {meth : Method} {c : Code} {Q : State → Prop} {G : gG} {A : Nat → Prop} (C : gC p m c cX10_mostFrom 5 s9 args wsX10_mostFrom RX10 G A) (ad : Nat → Nat) (I : Nat → Int32) (F : Nat → Nat → Int32) (rw : Nat) (gd gl : Int64) (tk : Nat → Bool) (na nb : Nat) (hna : F 40 0 = nI na) (hnb : F 40 1 = nI nb) (hna2 : na ≤ 20) (hnb2 : nb ≤ 20) (z : Nat × KS) (kx : ∀ (H : Heap) (locs : List Loc) (ls : Array Slot), gS G A s9 (mW G ad I (va_up (va_up (va_up F 42 (bF tk)) 41 (oF z.2.1)) 43 (bF z.2.2)) rw gd gl) H locs → lv_has ls 5 [(2, .int (nI z.1))] → W p l e (gR 30 700 0 0) s9 m args below meth c H locs 0 0 Q (F0 m 89 ls [])) :
    ∀ (r : Nat) (n a : Nat) (s : KS) (H : Heap) (locs : List Loc) (ls : Array Slot), (a + r = na) → (∀ b x, b < nb → s.1 b = some x → x < 20) → (kM (mE I F) tk nb r a n s = z) →  gS G A s9 (mW G ad I (va_up (va_up (va_up F 42 (bF tk)) 41 (oF s.1)) 43 (bF s.2)) rw gd gl) H locs → lv_has ls 5 [(0, .ref (ad 0)), (2, .int (nI n)), (3, .int (nI a))] → W p l e (gR 30 700 0 0) s9 m args below meth c H locs 0 0 Q (F0 m 29 ls []) := by
  have hx := C.1.1.1
  have hb := C.1.1.2.1
  have wd0 : Cond.fieldLink RX10 86 "ScaleHouseModel" "rows" "[I" ∈ wsX10_mostFrom := by decide +kernel
  have hinX10 : ∀ w ∈ wsX100, w ∈ wsX10_mostFrom := fun _ h => List.mem_cons_of_mem _ (List.mem_append_right _ h)
  intro r
  induction r with
  | zero =>
    intro n a s H locs ls hi hrg hz h hl
    refine lv_iload_n hx hb dX10_mostFrom_29 rfl (lv_at hl 2 rfl) ?_
    refine lv_aload_n hx hb dX10_mostFrom_30 rfl (lv_at hl 0 rfl) ?_
    refine r_get C h 0 rfl (Cn := RX10) (T := TX10) (N := 50) rfl hinX10 40 (by decide) (index := 86) (ref := "ScaleHouseModel") wd0 rfl (v := .ref (ad 40)) rfl dX10_mostFrom_31 ?_
    refine lv_iconst (v := 0) hx hb dX10_mostFrom_34 (by decide) ?_
    refine r_iald C h 25 rfl (i := 0) (by unfold vp_in; decide) dX10_mostFrom_35 ?_
    refine lv_cgi (y := ((F 40) (0 : Int32).toNatClampNeg)) rfl ?_
    refine lv_cgi (y := (nI na)) (hna) ?_
    refine lv_icmp_ge (tgt := 89) hx hb dX10_mostFrom_36 (by decide) (fun c_36 => ?_) (fun c_36 => ?_)
    · have hz9 : (n, s) = z := hz
      subst hz9
      exact kx _ _ ls h (lv_sub hl [1] rfl)
    · exact absurd (by rw [show a = na by omega]; exact Int32.le_refl _) c_36
  | succ r ih =>
    intro n a s H locs ls hi hrg hz h hl
    refine lv_iload_n hx hb dX10_mostFrom_29 rfl (lv_at hl 2 rfl) ?_
    refine lv_aload_n hx hb dX10_mostFrom_30 rfl (lv_at hl 0 rfl) ?_
    refine r_get C h 0 rfl (Cn := RX10) (T := TX10) (N := 50) rfl hinX10 40 (by decide) (index := 86) (ref := "ScaleHouseModel") wd0 rfl (v := .ref (ad 40)) rfl dX10_mostFrom_31 ?_
    refine lv_iconst (v := 0) hx hb dX10_mostFrom_34 (by decide) ?_
    refine r_iald C h 25 rfl (i := 0) (by unfold vp_in; decide) dX10_mostFrom_35 ?_
    refine lv_cgi (y := ((F 40) (0 : Int32).toNatClampNeg)) rfl ?_
    refine lv_cgi (y := (nI na)) (hna) ?_
    refine lv_icmp_ge (tgt := 89) hx hb dX10_mostFrom_36 (by decide) (fun c_36 => ?_) (fun c_36 => ?_)
    · exact absurd c_36 (nI_ge (by omega) (by omega))
    · refine lv_iconst (v := 0) hx hb dX10_mostFrom_39 (by decide) ?_
      refine lv_istore (lv' := [(4, .int 0), (0, .ref (ad 0)), (2, .int (nI n)), (3, .int (nI a))]) hx hb dX10_mostFrom_40 hl (by decide) rfl (fun ls hl => ?_)
      refine lp_X10_mostFrom3 C ad I F rw gd gl tk na nb hna hnb hna2 hnb2 n a s.1 s.2 (fun H locs ls h hl => ?_) nb 0 _ _ ls (Nat.zero_add _) (by rw [flg_0]; exact h) (lv_sub hl [1, 2, 3, 0] rfl)
      refine lv_iload_n hx hb dX10_mostFrom_67 rfl (lv_at hl 1 rfl) ?_
      refine lv_aload_n hx hb dX10_mostFrom_68 rfl (lv_at hl 0 rfl) ?_
      refine lv_iload_n hx hb dX10_mostFrom_69 rfl (lv_at hl 2 rfl) ?_
      have hp : List.Perm (mW G ad I (va_up (va_up (va_up F 42 (bF tk)) 41 (oF s.1)) 43 (bF (flg false nb s.2))) rw gd gl : va_W) ([((ad 0), .inr (10, [.int (I 0), .ref (ad 1), .ref (ad 2), .ref (ad 3), .ref (ad 4), .ref (ad 5), .ref (ad 6), .ref (ad 7), .ref (ad 8), .ref (ad 9), .ref (ad 10), .ref (ad 11), .ref (ad 12), .ref (ad 13), .ref (ad 14), .ref (ad 15), .ref (ad 16), .ref (ad 17), .ref (ad 18), .ref (ad 19), .ref (ad 20), .ref (ad 21), .ref (ad 22), .int (I 23), .int (I 24), .int (I 25), .int (I 26), .int (I 27), .int (I 28), .int (I 29), .ref rw, .int (I 31), .int (I 32), .int (I 33), .int (I 34), .int (I 35), .long gd, .long gl, .ref (ad 38), .ref (ad 39), .ref (ad 40), .ref (ad 41), .ref (ad 42), .ref (ad 43), .int (I 44), .int (I 45), .int (I 46), .int (I 47), .int (I 48), .int (I 49)])), ((ad 1), .inl (G.2.2 0, 120, .inl (F 1))), ((ad 2), .inl (G.2.2 0, 2400, .inl (F 2))), ((ad 3), .inl (G.2.2 1, 20, .inl (F 3))), ((ad 4), .inl (G.2.2 1, 20, .inl (F 4))), ((ad 5), .inl (G.2.2 1, 20, .inl (F 5))), ((ad 6), .inl (G.2.2 1, 60, .inl (F 6))), ((ad 7), .inl (G.2.2 1, 60, .inl (F 7))), ((ad 8), .inl (G.2.2 1, 60, .inl (F 8))), ((ad 9), .inl (G.2.2 1, 60, .inl (F 9))), ((ad 10), .inl (G.2.2 1, 100, .inl (F 10))), ((ad 11), .inl (G.2.2 1, 100, .inl (F 11))), ((ad 12), .inl (G.2.2 1, 100, .inl (F 12))), ((ad 13), .inl (G.2.2 1, 100, .inl (F 13))), ((ad 14), .inl (G.2.2 1, 100, .inl (F 14))), ((ad 15), .inl (G.2.2 1, 100, .inl (F 15))), ((ad 16), .inl (G.2.2 1, 100, .inl (F 16))), ((ad 17), .inl (G.2.2 1, 100, .inl (F 17))), ((ad 18), .inl (G.2.2 1, 100, .inl (F 18))), ((ad 19), .inl (G.2.2 1, 6, .inl (F 19))), ((ad 20), .inl (G.2.2 1, 20000, .inl (F 20))), ((ad 21), .inl (G.2.2 1, 20000, .inl (F 21))), ((ad 22), .inl (G.2.2 1, 20000, .inl (F 22))), ((ad 38), .inl (G.2.2 1, 40, .inl (F 38))), ((ad 39), .inl (G.2.2 1, 40, .inl (F 39))), ((ad 40), .inl (G.2.2 1, 2, .inl (F 40))), ((ad 41), .inl (G.2.2 1, 20, .inl (oF s.1))), ((ad 42), .inl (G.2.2 3, 20, .inl (bF tk))), ((ad 43), .inl (G.2.2 3, 20, .inl (bF (flg false nb s.2))))] ++ []) := pm 29 rfl [0, 1, 2, 3, 4, 5, 6, 7, 8, 9, 10, 11, 12, 13, 14, 15, 16, 17, 18, 19, 20, 21, 22, 23, 24, 25, 26, 27, 28] (by decide +kernel) rfl
      refine k_i C h hp (r_runV C h hp 0 rfl rfl (As := [.int (nI a)]) (rest := [.int (nI n)]) (m_findsAll l G ad I F rw gd gl tk na nb hna hnb hna2 hnb2 (nb + 1) a (s.1, flg false nb s.2) (Nat.lt_succ_of_le (fa_cnt_le _ _)) hrg (by omega)) (cwV 1 C.1.1.2.2.2.2 gX10_mostFrom_X10_finds rfl rfl rfl (by decide +kernel) ⟨by simp only [gR]; omega, by simp only [gR]; omega⟩) rfl hl.1 (Nat.le_of_ble_eq_true rfl) dX10_mostFrom_70 ⟨Nat.le_of_ble_eq_true rfl, Nat.le_of_ble_eq_true rfl⟩) (fun r_1 u_2 H locs hw_3 h => ?_)
      subst hw_3
      have hyA := kF_A (mE I F) tk nb (nb + 1) a (s.1, flg false nb s.2)
      have hyR := kF_rg (mE I F) tk nb 20 (nb + 1) a (s.1, flg false nb s.2) (hrg) (by omega)
      generalize ey : (kF (mE I F) tk nb (nb + 1) a (s.1, flg false nb s.2)) = y at h hyA hyR ⊢
      have h : gS G A s9 (mW G ad I (va_up (va_up (va_up F 42 (bF tk)) 41 (oF y.2.1)) 43 (bF y.2.2)) rw gd gl) H locs := h
      refine W.widen (k := 0) (n := 0) (Nat.le_of_ble_eq_true rfl) (Nat.le_of_ble_eq_true rfl) ?_
      refine lv_if_eq (tgt := 80) hx hb dX10_mostFrom_73 (by decide) (fun c_73 => ?_) (fun c_73 => ?_)
      · have e73 : y.1 = false := bi_0.mp c_73
        refine lv_iconst (v := 0) hx hb dX10_mostFrom_80 (by decide) ?_
        refine lv_iadd hx hb dX10_mostFrom_81 ?_
        refine lv_cgi (y := (nI n)) (Int32.add_zero _) ?_
        refine lv_istore_n (lv' := [(2, .int (nI n)), (0, .ref (ad 0)), (3, .int (nI a))]) hx hb dX10_mostFrom_82 rfl hl (by decide) rfl (fun ls hl => ?_)
        refine lv_iinc (v := nI (a + 1)) (lv' := [(3, .int (nI (a + 1))), (2, .int (nI n)), (0, .ref (ad 0))]) hx hb dX10_mostFrom_83 hl (k := 2) rfl (nI_1 _) (by decide) rfl (fun ls hl => ?_)
        refine lv_goto (tgt := 29) hx hb dX10_mostFrom_86 (by decide) ?_
        exact ih n (a + 1) y.2 _ _ ls (by omega) hyR (by rw [← hz, kM]; simp only [ey, e73, Bool.false_eq_true, if_false, Nat.add_zero]) h (lv_sub hl [2, 1, 0] rfl)
      · have e73 : y.1 = true := bi_1 c_73
        refine lv_iconst (v := 1) hx hb dX10_mostFrom_76 (by decide) ?_
        refine lv_goto (tgt := 81) hx hb dX10_mostFrom_77 (by decide) ?_
        refine lv_iadd hx hb dX10_mostFrom_81 ?_
        refine lv_cgi (y := (nI (n + 1))) (nI_1 n) ?_
        refine lv_istore_n (lv' := [(2, .int (nI (n + 1))), (0, .ref (ad 0)), (3, .int (nI a))]) hx hb dX10_mostFrom_82 rfl hl (by decide) rfl (fun ls hl => ?_)
        refine lv_iinc (v := nI (a + 1)) (lv' := [(3, .int (nI (a + 1))), (2, .int (nI (n + 1))), (0, .ref (ad 0))]) hx hb dX10_mostFrom_83 hl (k := 2) rfl (nI_1 _) (by decide) rfl (fun ls hl => ?_)
        refine lv_goto (tgt := 29) hx hb dX10_mostFrom_86 (by decide) ?_
        exact ih (n + 1) (a + 1) y.2 _ _ ls (by omega) hyR (by rw [← hz, kM]; simp only [ey, e73, if_true]) h (lv_sub hl [2, 1, 0] rfl)

set_option maxHeartbeats 4000000 in
set_option maxRecDepth 100000 in
theorem m_mostFrom (l : Launch) (G : gG) (ad : Nat → Nat) (I : Nat → Int32) (F : Nat → Nat → Int32) (rw : Nat) (gd gl : Int64) (tk : Nat → Bool) (na nb : Nat) (hna : F 40 0 = nI na) (hnb : F 40 1 = nI nb) (hna2 : na ≤ 20) (hnb2 : nb ≤ 20) (f : Nat) (hf : f ≤ na) (h0 : Nat → Option Nat) (t0 : Nat → Bool) : cM l yX10_mostFrom wsX10_mostFrom 30 700 (0) (0) G [.ref (ad 0), .int (nI f)] (mW G ad I (va_up (va_up (va_up F 42 (bF tk)) 41 (oF h0)) 43 (bF t0)) rw gd gl) (qI G (S := KS) (fun r _ => r = nI (kX (mE I F) f na nb tk)) (fun u => mW G ad I (va_up (va_up (va_up F 42 (bF tk)) 41 (oF u.1)) 43 (bF u.2)) rw gd gl)) := by
  refine o_M (cc := cX10_mostFrom) (maxL := 5) (ret := (some .int)) (own := RX10) (by decide +kernel) rfl rfl (Nat.le_of_ble_eq_true rfl) ?_
  intro p e s m below meth c A ls H locs hA C h hr hlk hnm hl
  have hx := C.1.1.1
  have hb := C.1.1.2.1
  have hl : lv_has ls 5 [(0, .ref (ad 0)), (1, .int (nI f))] := hl
  refine lv_iconst (v := 0) hx hb dX10_mostFrom_0 (by decide) ?_
  refine lv_istore_n (lv' := [(2, .int 0), (0, .ref (ad 0)), (1, .int (nI f))]) hx hb dX10_mostFrom_1 rfl hl (by decide) rfl (fun ls hl => ?_)
  refine lp_X10_mostFrom1 C ad I F rw gd gl tk na nb hna hnb hna2 hnb2 f h0 t0 (fun H locs ls h hl => ?_) nb 0 _ _ ls (Nat.zero_add _) (by rw [flg_0]; exact h) (lv_sub hl [1, 2, 0] rfl)
  refine lv_iconst (v := 0) hx hb dX10_mostFrom_25 (by decide) ?_
  refine lv_cgi (y := (nI 0)) (rfl) ?_
  refine lv_istore_n (lv' := [(2, .int (nI 0)), (0, .ref (ad 0)), (1, .int (nI f))]) hx hb dX10_mostFrom_26 rfl hl (by decide) rfl (fun ls hl => ?_)
  refine lv_iload_n hx hb dX10_mostFrom_27 rfl (lv_at hl 2 rfl) ?_
  refine lv_istore_n (lv' := [(3, .int (nI f)), (2, .int (nI 0)), (0, .ref (ad 0)), (1, .int (nI f))]) hx hb dX10_mostFrom_28 rfl hl (by decide) rfl (fun ls hl => ?_)
  refine lp_X10_mostFrom2 C ad I F rw gd gl tk na nb hna hnb hna2 hnb2 (kM (mE I F) tk nb (na - f) f 0 (flg none nb h0, t0)) (fun H locs ls h hl => ?_) (na - f) 0 f (flg none nb h0, t0) _ _ ls (by omega) (fun b x hb hx9 => by have hx8 : (none : Option Nat) = some x := (show (flg none nb h0) b = none from if_pos hb).symm.trans hx9; cases hx8) rfl h (lv_sub hl [2, 1, 0] rfl)
  refine lv_iload_n hx hb dX10_mostFrom_89 rfl (lv_at hl 0 rfl) ?_
  exact r_iret C h hr hlk (Nat.zero_le _) (Nat.zero_le _) (kM (mE I F) tk nb (na - f) f 0 (flg none nb h0, t0)).2 (by rw [kM_kX hf _ (fun b hb => if_pos hb)]) (rfl) dX10_mostFrom_90

theorem bF_fl (n : Nat) (t : Nat → Bool) : flF 0 n (bF t) = bF (flg false n t) := by
  funext j
  show (if j < n then 0 else bF t j) = if (if j < n then false else t j) = true then 1 else 0
  by_cases e : j < n
  · rw [if_pos e, if_pos e]; rfl
  · rw [if_neg e, if_neg e]; rfl

set_option maxHeartbeats 4000000 in
set_option maxRecDepth 100000 in
theorem m_pairs (l : Launch) (G : gG) (ad : Nat → Nat) (I : Nat → Int32) (F : Nat → Nat → Int32) (rw : Nat) (gd gl : Int64) (tk : Nat → Bool) (na nb : Nat) (hna : F 40 0 = nI na) (hnb : F 40 1 = nI nb) (hna2 : na ≤ 20) (hnb2 : nb ≤ 20) (h0 : Nat → Option Nat) (t0 : Nat → Bool) : cM l yX10_pairs wsX10_pairs 31 750 (0) (0) G [.ref (ad 0)] (mW G ad I (va_up (va_up (va_up F 42 (bF tk)) 41 (oF h0)) 43 (bF t0)) rw gd gl) (qI G (S := KS) (fun r _ => r = nI (kX (mE I F) 0 na nb (flg false 20 tk))) (fun u => mW G ad (upd I 0 0) (va_up (va_up (va_up F 42 (bF (flg false 20 tk))) 41 (oF u.1)) 43 (bF u.2)) rw gd gl)) := by
  refine o_M (cc := cX10_pairs) (maxL := 1) (ret := (some .int)) (own := RX10) (by decide +kernel) rfl rfl (Nat.le_of_ble_eq_true rfl) ?_
  intro p e s m below meth c A ls H locs hA C h hr hlk hnm hl
  have hx := C.1.1.1
  have hb := C.1.1.2.1
  have hl : lv_has ls 1 [(0, .ref (ad 0))] := hl
  have wd0 : Cond.fieldLink RX10 106 "ScaleHouseModel" "thrown" "I" ∈ wsX10_pairs := by decide +kernel
  have hinX10 : ∀ w ∈ wsX100, w ∈ wsX10_pairs := fun _ h => List.mem_cons_of_mem _ (List.mem_append_right _ h)
  refine lv_aload_n hx hb dX10_pairs_0 rfl (lv_at hl 0 rfl) ?_
  refine lv_iconst (v := 0) hx hb dX10_pairs_1 (by decide) ?_
  refine r_put C h 0 rfl (Cn := RX10) (T := TX10) (N := 50) rfl hinX10 tyX10 tyX10_ok nmX10 0 (by decide) (index := 106) (ref := "ScaleHouseModel") wd0 rfl rfl (v := .int 0) rfl rfl (show 0 < 50 by decide) dX10_pairs_2 (fun H locs h => ?_)
  have h : gS G A s (mW G ad (upd I 0 0) (va_up (va_up (va_up F 42 (bF tk)) 41 (oF h0)) 43 (bF t0)) rw gd gl) H locs := h
  refine lv_aload_n hx hb dX10_pairs_5 rfl (lv_at hl 0 rfl) ?_
  have hp : List.Perm (mW G ad (upd I 0 0) (va_up (va_up (va_up F 42 (bF tk)) 41 (oF h0)) 43 (bF t0)) rw gd gl : va_W) ([((ad 0), .inr (10, [.int 0, .ref (ad 1), .ref (ad 2), .ref (ad 3), .ref (ad 4), .ref (ad 5), .ref (ad 6), .ref (ad 7), .ref (ad 8), .ref (ad 9), .ref (ad 10), .ref (ad 11), .ref (ad 12), .ref (ad 13), .ref (ad 14), .ref (ad 15), .ref (ad 16), .ref (ad 17), .ref (ad 18), .ref (ad 19), .ref (ad 20), .ref (ad 21), .ref (ad 22), .int (I 23), .int (I 24), .int (I 25), .int (I 26), .int (I 27), .int (I 28), .int (I 29), .ref rw, .int (I 31), .int (I 32), .int (I 33), .int (I 34), .int (I 35), .long gd, .long gl, .ref (ad 38), .ref (ad 39), .ref (ad 40), .ref (ad 41), .ref (ad 42), .ref (ad 43), .int (I 44), .int (I 45), .int (I 46), .int (I 47), .int (I 48), .int (I 49)])), ((ad 1), .inl (G.2.2 0, 120, .inl (F 1))), ((ad 2), .inl (G.2.2 0, 2400, .inl (F 2))), ((ad 3), .inl (G.2.2 1, 20, .inl (F 3))), ((ad 4), .inl (G.2.2 1, 20, .inl (F 4))), ((ad 5), .inl (G.2.2 1, 20, .inl (F 5))), ((ad 6), .inl (G.2.2 1, 60, .inl (F 6))), ((ad 7), .inl (G.2.2 1, 60, .inl (F 7))), ((ad 8), .inl (G.2.2 1, 60, .inl (F 8))), ((ad 9), .inl (G.2.2 1, 60, .inl (F 9))), ((ad 10), .inl (G.2.2 1, 100, .inl (F 10))), ((ad 11), .inl (G.2.2 1, 100, .inl (F 11))), ((ad 12), .inl (G.2.2 1, 100, .inl (F 12))), ((ad 13), .inl (G.2.2 1, 100, .inl (F 13))), ((ad 14), .inl (G.2.2 1, 100, .inl (F 14))), ((ad 15), .inl (G.2.2 1, 100, .inl (F 15))), ((ad 16), .inl (G.2.2 1, 100, .inl (F 16))), ((ad 17), .inl (G.2.2 1, 100, .inl (F 17))), ((ad 18), .inl (G.2.2 1, 100, .inl (F 18))), ((ad 19), .inl (G.2.2 1, 6, .inl (F 19))), ((ad 20), .inl (G.2.2 1, 20000, .inl (F 20))), ((ad 21), .inl (G.2.2 1, 20000, .inl (F 21))), ((ad 22), .inl (G.2.2 1, 20000, .inl (F 22))), ((ad 38), .inl (G.2.2 1, 40, .inl (F 38))), ((ad 39), .inl (G.2.2 1, 40, .inl (F 39))), ((ad 40), .inl (G.2.2 1, 2, .inl (F 40))), ((ad 41), .inl (G.2.2 1, 20, .inl (oF h0))), ((ad 42), .inl (G.2.2 3, 20, .inl (bF tk))), ((ad 43), .inl (G.2.2 3, 20, .inl (bF t0)))] ++ []) := pm 29 rfl [0, 1, 2, 3, 4, 5, 6, 7, 8, 9, 10, 11, 12, 13, 14, 15, 16, 17, 18, 19, 20, 21, 22, 23, 24, 25, 26, 27, 28] (by decide +kernel) rfl
  refine k_v C h hp (r_runV C h hp 0 rfl rfl (As := []) (rest := []) (m_free l G ad (upd I 0 0) (va_up (va_up (va_up F 42 (bF tk)) 41 (oF h0)) 43 (bF t0)) rw gd gl) (cwV 0 C.1.1.2.2.2.2 gX10_pairs_X10_free rfl rfl rfl (by decide +kernel) ⟨by simp only [gR]; omega, by simp only [gR]; omega⟩) rfl hl.1 (Nat.le_of_ble_eq_true rfl) dX10_pairs_6 ⟨Nat.le_of_ble_eq_true rfl, Nat.le_of_ble_eq_true rfl⟩) (fun u_2 H locs hw_3 h => ?_)
  rw [show flF 0 20 ((va_up (va_up (va_up F 42 (bF tk)) 41 (oF h0)) 43 (bF t0)) 42) = bF (flg false 20 tk) from bF_fl 20 tk] at h
  have h : gS G A s (mW G ad (upd I 0 0) (va_up (va_up (va_up F 42 (bF (flg false 20 tk))) 41 (oF h0)) 43 (bF t0)) rw gd gl) H locs := h
  refine W.widen (k := 0) (n := 0) (Nat.le_of_ble_eq_true rfl) (Nat.le_of_ble_eq_true rfl) ?_
  refine lv_aload_n hx hb dX10_pairs_9 rfl (lv_at hl 0 rfl) ?_
  refine lv_iconst (v := 0) hx hb dX10_pairs_10 (by decide) ?_
  refine lv_cgi (y := (nI 0)) (rfl) ?_
  have hp : List.Perm (mW G ad (upd I 0 0) (va_up (va_up (va_up F 42 (bF (flg false 20 tk))) 41 (oF h0)) 43 (bF t0)) rw gd gl : va_W) ([((ad 0), .inr (10, [.int 0, .ref (ad 1), .ref (ad 2), .ref (ad 3), .ref (ad 4), .ref (ad 5), .ref (ad 6), .ref (ad 7), .ref (ad 8), .ref (ad 9), .ref (ad 10), .ref (ad 11), .ref (ad 12), .ref (ad 13), .ref (ad 14), .ref (ad 15), .ref (ad 16), .ref (ad 17), .ref (ad 18), .ref (ad 19), .ref (ad 20), .ref (ad 21), .ref (ad 22), .int (I 23), .int (I 24), .int (I 25), .int (I 26), .int (I 27), .int (I 28), .int (I 29), .ref rw, .int (I 31), .int (I 32), .int (I 33), .int (I 34), .int (I 35), .long gd, .long gl, .ref (ad 38), .ref (ad 39), .ref (ad 40), .ref (ad 41), .ref (ad 42), .ref (ad 43), .int (I 44), .int (I 45), .int (I 46), .int (I 47), .int (I 48), .int (I 49)])), ((ad 1), .inl (G.2.2 0, 120, .inl (F 1))), ((ad 2), .inl (G.2.2 0, 2400, .inl (F 2))), ((ad 3), .inl (G.2.2 1, 20, .inl (F 3))), ((ad 4), .inl (G.2.2 1, 20, .inl (F 4))), ((ad 5), .inl (G.2.2 1, 20, .inl (F 5))), ((ad 6), .inl (G.2.2 1, 60, .inl (F 6))), ((ad 7), .inl (G.2.2 1, 60, .inl (F 7))), ((ad 8), .inl (G.2.2 1, 60, .inl (F 8))), ((ad 9), .inl (G.2.2 1, 60, .inl (F 9))), ((ad 10), .inl (G.2.2 1, 100, .inl (F 10))), ((ad 11), .inl (G.2.2 1, 100, .inl (F 11))), ((ad 12), .inl (G.2.2 1, 100, .inl (F 12))), ((ad 13), .inl (G.2.2 1, 100, .inl (F 13))), ((ad 14), .inl (G.2.2 1, 100, .inl (F 14))), ((ad 15), .inl (G.2.2 1, 100, .inl (F 15))), ((ad 16), .inl (G.2.2 1, 100, .inl (F 16))), ((ad 17), .inl (G.2.2 1, 100, .inl (F 17))), ((ad 18), .inl (G.2.2 1, 100, .inl (F 18))), ((ad 19), .inl (G.2.2 1, 6, .inl (F 19))), ((ad 20), .inl (G.2.2 1, 20000, .inl (F 20))), ((ad 21), .inl (G.2.2 1, 20000, .inl (F 21))), ((ad 22), .inl (G.2.2 1, 20000, .inl (F 22))), ((ad 38), .inl (G.2.2 1, 40, .inl (F 38))), ((ad 39), .inl (G.2.2 1, 40, .inl (F 39))), ((ad 40), .inl (G.2.2 1, 2, .inl (F 40))), ((ad 41), .inl (G.2.2 1, 20, .inl (oF h0))), ((ad 42), .inl (G.2.2 3, 20, .inl (bF (flg false 20 tk)))), ((ad 43), .inl (G.2.2 3, 20, .inl (bF t0)))] ++ []) := pm 29 rfl [0, 1, 2, 3, 4, 5, 6, 7, 8, 9, 10, 11, 12, 13, 14, 15, 16, 17, 18, 19, 20, 21, 22, 23, 24, 25, 26, 27, 28] (by decide +kernel) rfl
  refine k_i C h hp (r_runV C h hp 0 rfl rfl (As := [.int (nI 0)]) (rest := []) (m_mostFrom l G ad (upd I 0 0) F rw gd gl (flg false 20 tk) na nb hna hnb hna2 hnb2 0 (Nat.zero_le _) h0 t0) (cwV 1 C.1.1.2.2.2.2 gX10_pairs_X10_mostFrom rfl rfl rfl (by decide +kernel) ⟨by simp only [gR]; omega, by simp only [gR]; omega⟩) rfl hl.1 (Nat.le_of_ble_eq_true rfl) dX10_pairs_11 ⟨Nat.le_of_ble_eq_true rfl, Nat.le_of_ble_eq_true rfl⟩) (fun r_4 u1 H locs hw_5 h => ?_)
  have h : gS G A s (mW G ad (upd I 0 0) (va_up (va_up (va_up F 42 (bF (flg false 20 tk))) 41 (oF u1.1)) 43 (bF u1.2)) rw gd gl) H locs := h
  refine W.widen (k := 0) (n := 0) (Nat.le_of_ble_eq_true rfl) (Nat.le_of_ble_eq_true rfl) ?_
  rw [show mE (upd I 0 0) F = mE I F from rfl] at hw_5
  subst hw_5
  exact r_iret C h hr hlk (Nat.zero_le _) (Nat.zero_le _) u1 (rfl) (rfl) dX10_pairs_14

/-- the lowest of the seller's rows that leaves as many pairs -/
def pI (E : Nat → Nat → Bool) (na nb a lf : Nat) (tk : Nat → Bool) : Nat → Nat → Option Nat
  | 0, _ => none
  | r + 1, b => if tk b = true then pI E na nb a lf tk r (b + 1) else if E a b = true then (if kX E (a + 1) na nb (va_up tk b true) + 1 = lf then some b else pI E na nb a lf tk r (b + 1)) else pI E na nb a lf tk r (b + 1)
def pT (tk : Nat → Bool) (x : Option Nat) : Nat → Bool := match x with | none => tk | some b => va_up tk b true
def pLf (lf : Nat) (x : Option Nat) : Nat := match x with | none => lf | some _ => lf - 1
/-- rows a .. a + r, one after the other -/
def pP (E : Nat → Nat → Bool) (na nb : Nat) : Nat → Nat → Nat → (Nat → Bool) → Option Nat
  | 0, a, lf, tk => pI E na nb a lf tk nb 0
  | r + 1, a, lf, tk => pP E na nb r (a + 1) (pLf lf (pI E na nb a lf tk nb 0)) (pT tk (pI E na nb a lf tk nb 0))
theorem pI_lt (E : Nat → Nat → Bool) (na nb a lf : Nat) (tk : Nat → Bool) : ∀ r b x, b + r = nb → pI E na nb a lf tk r b = some x → x < nb ∧ 1 ≤ lf
  | 0, b, x, _, h => by cases h
  | r + 1, b, x, hb, h => by
    have ih := fun h => pI_lt E na nb a lf tk r (b + 1) x (by omega) h
    rw [pI] at h
    split at h
    · exact ih h
    split at h
    · split at h
      · next e => cases h; omega
      · exact ih h
    · exact ih h
theorem va_up_back (tk : Nat → Bool) (b : Nat) (h : tk b = false) : va_up (va_up tk b true) b false = tk := by
  funext j
  unfold va_up
  by_cases e : j = b
  · rw [if_pos e, e, h]
  · rw [if_neg e, if_neg e]
theorem nI_pm {m n : Nat} (hm : m < 2 ^ 30) (hn : n < 2 ^ 30) : nI m = nI n - 1 ↔ m + 1 = n := by
  rw [show (1 : Int32) = nI 1 from rfl, fa_eq, pk_sub_toInt hn (by decide), nI_toInt (by omega)]
  omega
theorem sz_le (nb : Nat) (h : Nat → Option Nat) : sz nb h ≤ nb := fa_cnt_le _ _
theorem kX_le {E : Nat → Nat → Bool} {f na nb : Nat} {tk : Nat → Bool} (hf : f ≤ na) : kX E f na nb tk ≤ nb := by
  obtain ⟨⟨h, _, e⟩, _⟩ := kX_Mx (E := E) (f := f) (na := na) (nb := nb) (tk := tk) hf
  rw [← e]; exact sz_le nb h

set_option maxHeartbeats 4000000 in
set_option maxRecDepth 100000 in
theorem lpf_X10_pair {p : Program} {l : Launch} {e : Env} {R : Room} {s : State} {m : MethodId} {args : Array Value} {below : List Frame} {meth : Method} {c : Code} {cells slots : Nat} {Q : State → Prop} {G : gG} {A : Nat → Prop} (C : gC p m c cX10_pair 6 s args wsX10_pair RX10 G A) (ad : Nat → Nat) (I : Nat → Int32) (F : Nat → Nat → Int32) (rw : Nat) (gd gl : Int64) (tk : Nat → Bool) (na nb : Nat) (hna : F 40 0 = nI na) (hnb : F 40 1 = nI nb) (hna2 : na ≤ 20) (hnb2 : nb ≤ 20) (row lf a b x : Nat) (hx9 : x < 20) (s8 : KS) (hb9 : b ≤ 20) (kx : ∀ (H : Heap) (locs : List Loc) (ls : Array Slot), gS G A s (mW G ad I (va_up (va_up (va_up F 42 (bF tk)) 41 (oF s8.1)) 43 (bF s8.2)) rw gd gl) H locs → lv_has ls 6 [(0, .ref (ad 0)), (1, .int (nI row)), (2, .int (nI lf)), (3, .int (nI a)), (4, .int (nI x))] → W p l e R s m args below meth c H locs cells slots Q (F0 m 128 ls [])) (H : Heap) (locs : List Loc) (ls : Array Slot) (h : gS G A s (mW G ad I (va_up (va_up (va_up F 42 (bF tk)) 41 (oF s8.1)) 43 (bF s8.2)) rw gd gl) H locs) (hl : lv_has ls 6 [(0, .ref (ad 0)), (1, .int (nI row)), (2, .int (nI lf)), (3, .int (nI a)), (4, .int (nI x)), (5, .int (nI b))]) : W p l e R s m args below meth c H locs cells slots Q (F0 m 46 ls []) := by
  have hx := C.1.1.1
  have hb := C.1.1.2.1
  have wd0 : Cond.fieldLink RX10 86 "ScaleHouseModel" "rows" "[I" ∈ wsX10_pair := by decide +kernel
  have hinX10 : ∀ w ∈ wsX100, w ∈ wsX10_pair := fun _ h => List.mem_cons_of_mem _ (List.mem_append_right _ h)
  refine lv_iload hx hb dX10_pair_46 (lv_at hl 5 rfl) ?_
  refine lv_aload_n hx hb dX10_pair_48 rfl (lv_at hl 0 rfl) ?_
  refine r_get C h 0 rfl (Cn := RX10) (T := TX10) (N := 50) rfl hinX10 40 (by decide) (index := 86) (ref := "ScaleHouseModel") wd0 rfl (v := .ref (ad 40)) rfl dX10_pair_49 ?_
  refine lv_iconst (v := 1) hx hb dX10_pair_52 (by decide) ?_
  refine r_iald C h 25 rfl (i := 1) (by unfold vp_in; decide) dX10_pair_53 ?_
  refine lv_cgi (y := ((F 40) (1 : Int32).toNatClampNeg)) rfl ?_
  refine lv_cgi (y := (nI nb)) (hnb) ?_
  refine lv_icmp_ge (tgt := 128) hx hb dX10_pair_54 (by decide) (fun c_54 => ?_) (fun c_54 => ?_)
  · exact kx _ _ ls h (lv_sub hl [0, 1, 2, 3, 4] rfl)
  · refine lv_iload hx hb dX10_pair_57 (lv_at hl 4 rfl) ?_
    refine lv_iconst (v := -1) hx hb dX10_pair_59 (by decide) ?_
    refine lv_icmp_ne (tgt := 128) hx hb dX10_pair_60 (by decide) (fun c_60 => ?_) (fun c_60 => ?_)
    · exact kx _ _ ls h (lv_sub hl [0, 1, 2, 3, 4] rfl)
    · exact absurd c_60 (nI_ne_m1 (by omega))

set_option maxHeartbeats 4000000 in
set_option maxRecDepth 100000 in
theorem lp_X10_pair {p : Program} {l : Launch} {e : Env} {s9 : State} {m : MethodId} {args : Array Value} {below : List Frame} {meth : Method} {c : Code} {Q : State → Prop} {G : gG} {A : Nat → Prop} (C : gC p m c cX10_pair 6 s9 args wsX10_pair RX10 G A) (ad : Nat → Nat) (I : Nat → Int32) (F : Nat → Nat → Int32) (rw : Nat) (gd gl : Int64) (tk : Nat → Bool) (na nb : Nat) (hna : F 40 0 = nI na) (hnb : F 40 1 = nI nb) (hna2 : na ≤ 20) (hnb2 : nb ≤ 20) (row a lf : Nat) (ha : a < na) (hlf : lf ≤ 20) (z : Option Nat) (kx : ∀ (s : KS) (H : Heap) (locs : List Loc) (ls : Array Slot), gS G A s9 (mW G ad I (va_up (va_up (va_up F 42 (bF (pT tk z))) 41 (oF s.1)) 43 (bF s.2)) rw gd gl) H locs → lv_has ls 6 [(0, .ref (ad 0)), (1, .int (nI row)), (2, .int (nI lf)), (3, .int (nI a)), (4, .int (oI z))] → W p l e (gR 31 750 0 0) s9 m args below meth c H locs 0 0 Q (F0 m 128 ls [])) :
    ∀ (r : Nat) (b : Nat) (s : KS) (H : Heap) (locs : List Loc) (ls : Array Slot), (b + r = nb) → (pI (mE I F) na nb a lf tk r b = z) →  gS G A s9 (mW G ad I (va_up (va_up (va_up F 42 (bF tk)) 41 (oF s.1)) 43 (bF s.2)) rw gd gl) H locs → lv_has ls 6 [(0, .ref (ad 0)), (1, .int (nI row)), (2, .int (nI lf)), (3, .int (nI a)), (4, .int (-1)), (5, .int (nI b))] → W p l e (gR 31 750 0 0) s9 m args below meth c H locs 0 0 Q (F0 m 46 ls []) := by
  have hx := C.1.1.1
  have hb := C.1.1.2.1
  have wd0 : Cond.fieldLink RX10 86 "ScaleHouseModel" "rows" "[I" ∈ wsX10_pair := by decide +kernel
  have hinX10 : ∀ w ∈ wsX100, w ∈ wsX10_pair := fun _ h => List.mem_cons_of_mem _ (List.mem_append_right _ h)
  have wd1 : Cond.fieldLink RX10 92 "ScaleHouseModel" "isTaken" "[Z" ∈ wsX10_pair := by decide +kernel
  intro r
  induction r with
  | zero =>
    intro b s H locs ls hi hz h hl
    refine lv_iload hx hb dX10_pair_46 (lv_at hl 5 rfl) ?_
    refine lv_aload_n hx hb dX10_pair_48 rfl (lv_at hl 0 rfl) ?_
    refine r_get C h 0 rfl (Cn := RX10) (T := TX10) (N := 50) rfl hinX10 40 (by decide) (index := 86) (ref := "ScaleHouseModel") wd0 rfl (v := .ref (ad 40)) rfl dX10_pair_49 ?_
    refine lv_iconst (v := 1) hx hb dX10_pair_52 (by decide) ?_
    refine r_iald C h 25 rfl (i := 1) (by unfold vp_in; decide) dX10_pair_53 ?_
    refine lv_cgi (y := ((F 40) (1 : Int32).toNatClampNeg)) rfl ?_
    refine lv_cgi (y := (nI nb)) (hnb) ?_
    refine lv_icmp_ge (tgt := 128) hx hb dX10_pair_54 (by decide) (fun c_54 => ?_) (fun c_54 => ?_)
    · have hz9 : none = z := hz
      subst hz9
      exact kx s _ _ ls h (lv_sub hl [0, 1, 2, 3, 4] rfl)
    · exact absurd (by rw [show b = nb by omega]; exact Int32.le_refl _) c_54
  | succ r ih =>
    intro b s H locs ls hi hz h hl
    refine lv_iload hx hb dX10_pair_46 (lv_at hl 5 rfl) ?_
    refine lv_aload_n hx hb dX10_pair_48 rfl (lv_at hl 0 rfl) ?_
    refine r_get C h 0 rfl (Cn := RX10) (T := TX10) (N := 50) rfl hinX10 40 (by decide) (index := 86) (ref := "ScaleHouseModel") wd0 rfl (v := .ref (ad 40)) rfl dX10_pair_49 ?_
    refine lv_iconst (v := 1) hx hb dX10_pair_52 (by decide) ?_
    refine r_iald C h 25 rfl (i := 1) (by unfold vp_in; decide) dX10_pair_53 ?_
    refine lv_cgi (y := ((F 40) (1 : Int32).toNatClampNeg)) rfl ?_
    refine lv_cgi (y := (nI nb)) (hnb) ?_
    refine lv_icmp_ge (tgt := 128) hx hb dX10_pair_54 (by decide) (fun c_54 => ?_) (fun c_54 => ?_)
    · exact absurd c_54 (nI_ge (by omega) (by omega))
    · refine lv_iload hx hb dX10_pair_57 (lv_at hl 4 rfl) ?_
      refine lv_iconst (v := -1) hx hb dX10_pair_59 (by decide) ?_
      refine lv_icmp_ne (tgt := 128) hx hb dX10_pair_60 (by decide) (fun c_60 => ?_) (fun c_60 => ?_)
      · exact absurd c_60 (by decide)
      · refine lv_aload_n hx hb dX10_pair_63 rfl (lv_at hl 0 rfl) ?_
        refine r_get C h 0 rfl (Cn := RX10) (T := TX10) (N := 50) rfl hinX10 42 (by decide) (index := 92) (ref := "ScaleHouseModel") wd1 rfl (v := .ref (ad 42)) rfl dX10_pair_64 ?_
        refine lv_iload hx hb dX10_pair_67 (lv_at hl 5 rfl) ?_
        refine r_zald C h 27 rfl (i := (nI b)) (vp_in_nI (by omega) (by decide)) dX10_pair_69 ?_
        refine lv_cgi (y := ((bF tk) (nI b).toNatClampNeg)) rfl ?_
        refine lv_cgi (y := (bF tk b)) (nn_at (bF tk) (by omega)) ?_
        refine lv_if_ne (tgt := 122) hx hb dX10_pair_70 (by decide) (fun c_70 => ?_) (fun c_70 => ?_)
        · have e70 := bF_1 c_70
          refine lv_iinc (v := nI (b + 1)) (lv' := [(5, .int (nI (b + 1))), (0, .ref (ad 0)), (1, .int (nI row)), (2, .int (nI lf)), (3, .int (nI a)), (4, .int (-1))]) hx hb dX10_pair_122 hl (k := 5) rfl (nI_1 _) (by decide) rfl (fun ls hl => ?_)
          refine lv_goto (tgt := 46) hx hb dX10_pair_125 (by decide) ?_
          exact ih (b + 1) s _ _ ls (by omega) (by rw [← hz, pI, if_pos e70]) h (lv_sub hl [1, 2, 3, 4, 5, 0] rfl)
        · have e70f := bF_0.mp c_70
          have e70 : ¬ tk b = true := fun z9 => by rw [e70f] at z9; exact ft z9
          refine lv_aload_n hx hb dX10_pair_73 rfl (lv_at hl 0 rfl) ?_
          refine lv_iload_n hx hb dX10_pair_74 rfl (lv_at hl 3 rfl) ?_
          refine lv_iload hx hb dX10_pair_75 (lv_at hl 5 rfl) ?_
          have hp : List.Perm (mW G ad I (va_up (va_up (va_up F 42 (bF tk)) 41 (oF s.1)) 43 (bF s.2)) rw gd gl : va_W) ([((ad 0), .inr (10, [.int (I 0), .ref (ad 1), .ref (ad 2), .ref (ad 3), .ref (ad 4), .ref (ad 5), .ref (ad 6), .ref (ad 7), .ref (ad 8), .ref (ad 9), .ref (ad 10), .ref (ad 11), .ref (ad 12), .ref (ad 13), .ref (ad 14), .ref (ad 15), .ref (ad 16), .ref (ad 17), .ref (ad 18), .ref (ad 19), .ref (ad 20), .ref (ad 21), .ref (ad 22), .int (I 23), .int (I 24), .int (I 25), .int (I 26), .int (I 27), .int (I 28), .int (I 29), .ref rw, .int (I 31), .int (I 32), .int (I 33), .int (I 34), .int (I 35), .long gd, .long gl, .ref (ad 38), .ref (ad 39), .ref (ad 40), .ref (ad 41), .ref (ad 42), .ref (ad 43), .int (I 44), .int (I 45), .int (I 46), .int (I 47), .int (I 48), .int (I 49)])), ((ad 1), .inl (G.2.2 0, 120, .inl (F 1))), ((ad 2), .inl (G.2.2 0, 2400, .inl (F 2))), ((ad 3), .inl (G.2.2 1, 20, .inl (F 3))), ((ad 4), .inl (G.2.2 1, 20, .inl (F 4))), ((ad 5), .inl (G.2.2 1, 20, .inl (F 5))), ((ad 6), .inl (G.2.2 1, 60, .inl (F 6))), ((ad 7), .inl (G.2.2 1, 60, .inl (F 7))), ((ad 8), .inl (G.2.2 1, 60, .inl (F 8))), ((ad 9), .inl (G.2.2 1, 60, .inl (F 9))), ((ad 10), .inl (G.2.2 1, 100, .inl (F 10))), ((ad 11), .inl (G.2.2 1, 100, .inl (F 11))), ((ad 12), .inl (G.2.2 1, 100, .inl (F 12))), ((ad 13), .inl (G.2.2 1, 100, .inl (F 13))), ((ad 14), .inl (G.2.2 1, 100, .inl (F 14))), ((ad 15), .inl (G.2.2 1, 100, .inl (F 15))), ((ad 16), .inl (G.2.2 1, 100, .inl (F 16))), ((ad 17), .inl (G.2.2 1, 100, .inl (F 17))), ((ad 18), .inl (G.2.2 1, 100, .inl (F 18))), ((ad 19), .inl (G.2.2 1, 6, .inl (F 19))), ((ad 20), .inl (G.2.2 1, 20000, .inl (F 20))), ((ad 21), .inl (G.2.2 1, 20000, .inl (F 21))), ((ad 22), .inl (G.2.2 1, 20000, .inl (F 22))), ((ad 38), .inl (G.2.2 1, 40, .inl (F 38))), ((ad 39), .inl (G.2.2 1, 40, .inl (F 39))), ((ad 40), .inl (G.2.2 1, 2, .inl (F 40))), ((ad 41), .inl (G.2.2 1, 20, .inl (oF s.1))), ((ad 42), .inl (G.2.2 3, 20, .inl (bF tk))), ((ad 43), .inl (G.2.2 3, 20, .inl (bF s.2)))] ++ []) := pm 29 rfl [0, 1, 2, 3, 4, 5, 6, 7, 8, 9, 10, 11, 12, 13, 14, 15, 16, 17, 18, 19, 20, 21, 22, 23, 24, 25, 26, 27, 28] (by decide +kernel) rfl
          refine k_i C h hp (r_runV C h hp 0 rfl rfl (As := [.int (nI a), .int (nI b)]) (rest := []) (m_agree l G ad I (va_up (va_up (va_up F 42 (bF tk)) 41 (oF s.1)) 43 (bF s.2)) rw gd gl a b (by omega) (by omega)) (cwV 2 C.1.1.2.2.2.2 gX10_pair_X10_agree rfl rfl rfl (by decide +kernel) ⟨by simp only [gR]; omega, by simp only [gR]; omega⟩) rfl hl.1 (Nat.le_of_ble_eq_true rfl) dX10_pair_77 ⟨Nat.le_of_ble_eq_true rfl, Nat.le_of_ble_eq_true rfl⟩) (fun r_2 u_3 H locs hw_4 h => ?_)
          have h : gS G A s9 (mW G ad I (va_up (va_up (va_up F 42 (bF tk)) 41 (oF s.1)) 43 (bF s.2)) rw gd gl) H locs := h
          refine W.widen (k := 0) (n := 0) (Nat.le_of_ble_eq_true rfl) (Nat.le_of_ble_eq_true rfl) ?_
          rw [show mAgr I (va_up (va_up (va_up F 42 (bF tk)) 41 (oF s.1)) 43 (bF s.2)) a b = mAgr I F a b from rfl] at hw_4
          subst hw_4
          refine lv_if_ne (tgt := 86) hx hb dX10_pair_80 (by decide) (fun c_80 => ?_) (fun c_80 => ?_)
          · have e80 : mE I F a b = true := decide_eq_true c_80
            refine lv_aload_n hx hb dX10_pair_86 rfl (lv_at hl 0 rfl) ?_
            refine r_get C h 0 rfl (Cn := RX10) (T := TX10) (N := 50) rfl hinX10 42 (by decide) (index := 92) (ref := "ScaleHouseModel") wd1 rfl (v := .ref (ad 42)) rfl dX10_pair_87 ?_
            refine lv_iload hx hb dX10_pair_90 (lv_at hl 5 rfl) ?_
            refine lv_iconst (v := 1) hx hb dX10_pair_92 (by decide) ?_
            refine r_zast C h 27 rfl (i := (nI b)) (vp_in_nI (by omega) (by decide)) dX10_pair_93 (fun H locs h => ?_)
            have h : gS G A s9 (mW G ad I (va_up (va_up (va_up F 42 (upd (bF tk) (nI b).toNatClampNeg (vp_nar .boolean 1))) 41 (oF s.1)) 43 (bF s.2)) rw gd gl) H locs := h
            rw [show (upd (bF tk) (nI b).toNatClampNeg (vp_nar .boolean 1)) = (bF (va_up tk b true)) from by rw [nI_clamp (by omega)]; exact bF_up tk b true] at h
            have h : gS G A s9 (mW G ad I (va_up (va_up (va_up F 42 (bF (va_up tk b true))) 41 (oF s.1)) 43 (bF s.2)) rw gd gl) H locs := h
            refine lv_aload_n hx hb dX10_pair_94 rfl (lv_at hl 0 rfl) ?_
            refine lv_iload_n hx hb dX10_pair_95 rfl (lv_at hl 3 rfl) ?_
            refine lv_iconst (v := 1) hx hb dX10_pair_96 (by decide) ?_
            refine lv_iadd hx hb dX10_pair_97 ?_
            refine lv_cgi (y := (nI (a + 1))) (nI_1 a) ?_
            have hp : List.Perm (mW G ad I (va_up (va_up (va_up F 42 (bF (va_up tk b true))) 41 (oF s.1)) 43 (bF s.2)) rw gd gl : va_W) ([((ad 0), .inr (10, [.int (I 0), .ref (ad 1), .ref (ad 2), .ref (ad 3), .ref (ad 4), .ref (ad 5), .ref (ad 6), .ref (ad 7), .ref (ad 8), .ref (ad 9), .ref (ad 10), .ref (ad 11), .ref (ad 12), .ref (ad 13), .ref (ad 14), .ref (ad 15), .ref (ad 16), .ref (ad 17), .ref (ad 18), .ref (ad 19), .ref (ad 20), .ref (ad 21), .ref (ad 22), .int (I 23), .int (I 24), .int (I 25), .int (I 26), .int (I 27), .int (I 28), .int (I 29), .ref rw, .int (I 31), .int (I 32), .int (I 33), .int (I 34), .int (I 35), .long gd, .long gl, .ref (ad 38), .ref (ad 39), .ref (ad 40), .ref (ad 41), .ref (ad 42), .ref (ad 43), .int (I 44), .int (I 45), .int (I 46), .int (I 47), .int (I 48), .int (I 49)])), ((ad 1), .inl (G.2.2 0, 120, .inl (F 1))), ((ad 2), .inl (G.2.2 0, 2400, .inl (F 2))), ((ad 3), .inl (G.2.2 1, 20, .inl (F 3))), ((ad 4), .inl (G.2.2 1, 20, .inl (F 4))), ((ad 5), .inl (G.2.2 1, 20, .inl (F 5))), ((ad 6), .inl (G.2.2 1, 60, .inl (F 6))), ((ad 7), .inl (G.2.2 1, 60, .inl (F 7))), ((ad 8), .inl (G.2.2 1, 60, .inl (F 8))), ((ad 9), .inl (G.2.2 1, 60, .inl (F 9))), ((ad 10), .inl (G.2.2 1, 100, .inl (F 10))), ((ad 11), .inl (G.2.2 1, 100, .inl (F 11))), ((ad 12), .inl (G.2.2 1, 100, .inl (F 12))), ((ad 13), .inl (G.2.2 1, 100, .inl (F 13))), ((ad 14), .inl (G.2.2 1, 100, .inl (F 14))), ((ad 15), .inl (G.2.2 1, 100, .inl (F 15))), ((ad 16), .inl (G.2.2 1, 100, .inl (F 16))), ((ad 17), .inl (G.2.2 1, 100, .inl (F 17))), ((ad 18), .inl (G.2.2 1, 100, .inl (F 18))), ((ad 19), .inl (G.2.2 1, 6, .inl (F 19))), ((ad 20), .inl (G.2.2 1, 20000, .inl (F 20))), ((ad 21), .inl (G.2.2 1, 20000, .inl (F 21))), ((ad 22), .inl (G.2.2 1, 20000, .inl (F 22))), ((ad 38), .inl (G.2.2 1, 40, .inl (F 38))), ((ad 39), .inl (G.2.2 1, 40, .inl (F 39))), ((ad 40), .inl (G.2.2 1, 2, .inl (F 40))), ((ad 41), .inl (G.2.2 1, 20, .inl (oF s.1))), ((ad 42), .inl (G.2.2 3, 20, .inl (bF (va_up tk b true)))), ((ad 43), .inl (G.2.2 3, 20, .inl (bF s.2)))] ++ []) := pm 29 rfl [0, 1, 2, 3, 4, 5, 6, 7, 8, 9, 10, 11, 12, 13, 14, 15, 16, 17, 18, 19, 20, 21, 22, 23, 24, 25, 26, 27, 28] (by decide +kernel) rfl
            refine k_i C h hp (r_runV C h hp 0 rfl rfl (As := [.int (nI (a + 1))]) (rest := []) (m_mostFrom l G ad I F rw gd gl (va_up tk b true) na nb hna hnb hna2 hnb2 (a + 1) (by omega) s.1 s.2) (cwV 1 C.1.1.2.2.2.2 gX10_pair_X10_mostFrom rfl rfl rfl (by decide +kernel) ⟨by simp only [gR]; omega, by simp only [gR]; omega⟩) rfl hl.1 (Nat.le_of_ble_eq_true rfl) dX10_pair_98 ⟨Nat.le_of_ble_eq_true rfl, Nat.le_of_ble_eq_true rfl⟩) (fun r_5 u1 H locs hw_6 h => ?_)
            have h : gS G A s9 (mW G ad I (va_up (va_up (va_up F 42 (bF (va_up tk b true))) 41 (oF u1.1)) 43 (bF u1.2)) rw gd gl) H locs := h
            refine W.widen (k := 0) (n := 0) (Nat.le_of_ble_eq_true rfl) (Nat.le_of_ble_eq_true rfl) ?_
            rw [show mE I F = mE I F from rfl] at hw_6
            subst hw_6
            refine lv_iload_n hx hb dX10_pair_101 rfl (lv_at hl 2 rfl) ?_
            refine lv_iconst (v := 1) hx hb dX10_pair_102 (by decide) ?_
            refine lv_isub hx hb dX10_pair_103 ?_
            refine lv_icmp_ne (tgt := 114) hx hb dX10_pair_104 (by decide) (fun c_104 => ?_) (fun c_104 => ?_)
            · have e104 : ¬ kX (mE I F) (a + 1) na nb (va_up tk b true) + 1 = lf := fun z9 => c_104 ((nI_pm (by have := kX_le (E := mE I F) (nb := nb) (tk := va_up tk b true) (show a + 1 ≤ na by omega); omega) (by omega)).mpr z9)
              refine lv_aload_n hx hb dX10_pair_114 rfl (lv_at hl 0 rfl) ?_
              refine r_get C h 0 rfl (Cn := RX10) (T := TX10) (N := 50) rfl hinX10 42 (by decide) (index := 92) (ref := "ScaleHouseModel") wd1 rfl (v := .ref (ad 42)) rfl dX10_pair_115 ?_
              refine lv_iload hx hb dX10_pair_118 (lv_at hl 5 rfl) ?_
              refine lv_iconst (v := 0) hx hb dX10_pair_120 (by decide) ?_
              refine r_zast C h 27 rfl (i := (nI b)) (vp_in_nI (by omega) (by decide)) dX10_pair_121 (fun H locs h => ?_)
              have h : gS G A s9 (mW G ad I (va_up (va_up (va_up F 42 (upd (bF (va_up tk b true)) (nI b).toNatClampNeg (vp_nar .boolean 0))) 41 (oF u1.1)) 43 (bF u1.2)) rw gd gl) H locs := h
              rw [show (upd (bF (va_up tk b true)) (nI b).toNatClampNeg (vp_nar .boolean 0)) = (bF tk) from by rw [nI_clamp (by omega), show vp_nar .boolean 0 = (if false = true then 1 else 0) from rfl, bF_up, va_up_back tk b e70f]] at h
              have h : gS G A s9 (mW G ad I (va_up (va_up (va_up F 42 (bF tk)) 41 (oF u1.1)) 43 (bF u1.2)) rw gd gl) H locs := h
              refine lv_iinc (v := nI (b + 1)) (lv' := [(5, .int (nI (b + 1))), (0, .ref (ad 0)), (1, .int (nI row)), (2, .int (nI lf)), (3, .int (nI a)), (4, .int (-1))]) hx hb dX10_pair_122 hl (k := 5) rfl (nI_1 _) (by decide) rfl (fun ls hl => ?_)
              refine lv_goto (tgt := 46) hx hb dX10_pair_125 (by decide) ?_
              exact ih (b + 1) u1 _ _ ls (by omega) (by rw [← hz, pI, if_neg e70, if_pos e80, if_neg e104]) h (lv_sub hl [1, 2, 3, 4, 5, 0] rfl)
            · have e104 : kX (mE I F) (a + 1) na nb (va_up tk b true) + 1 = lf := (nI_pm (by have := kX_le (E := mE I F) (nb := nb) (tk := va_up tk b true) (show a + 1 ≤ na by omega); omega) (by omega)).mp c_104
              refine lv_iload hx hb dX10_pair_107 (lv_at hl 5 rfl) ?_
              refine lv_istore (lv' := [(4, .int (nI b)), (0, .ref (ad 0)), (1, .int (nI row)), (2, .int (nI lf)), (3, .int (nI a)), (5, .int (nI b))]) hx hb dX10_pair_109 hl (by decide) rfl (fun ls hl => ?_)
              refine lv_goto (tgt := 122) hx hb dX10_pair_111 (by decide) ?_
              refine lv_iinc (v := nI (b + 1)) (lv' := [(5, .int (nI (b + 1))), (4, .int (nI b)), (0, .ref (ad 0)), (1, .int (nI row)), (2, .int (nI lf)), (3, .int (nI a))]) hx hb dX10_pair_122 hl (k := 5) rfl (nI_1 _) (by decide) rfl (fun ls hl => ?_)
              refine lv_goto (tgt := 46) hx hb dX10_pair_125 (by decide) ?_
              have hz9 : some b = z := by rw [← hz, pI, if_neg e70, if_pos e80, if_pos e104]
              subst hz9
              exact lpf_X10_pair C ad I F rw gd gl (va_up tk b true) na nb hna hnb hna2 hnb2 row lf a (b + 1) b (by omega) u1 (by omega) (fun H locs ls h hl => kx u1 _ _ ls h hl) _ _ ls h (lv_sub hl [2, 3, 4, 5, 1, 0] rfl)
          · have e80 : ¬ mE I F a b = true := fun z9 => (of_decide_eq_true z9) c_80
            refine lv_goto (tgt := 122) hx hb dX10_pair_83 (by decide) ?_
            refine lv_iinc (v := nI (b + 1)) (lv' := [(5, .int (nI (b + 1))), (0, .ref (ad 0)), (1, .int (nI row)), (2, .int (nI lf)), (3, .int (nI a)), (4, .int (-1))]) hx hb dX10_pair_122 hl (k := 5) rfl (nI_1 _) (by decide) rfl (fun ls hl => ?_)
            refine lv_goto (tgt := 46) hx hb dX10_pair_125 (by decide) ?_
            exact ih (b + 1) s _ _ ls (by omega) (by rw [← hz, pI, if_neg e70, if_neg e80]) h (lv_sub hl [1, 2, 3, 4, 5, 0] rfl)

theorem nI_dec {n : Nat} (h : 1 ≤ n) : nI n + (-1) = nI (n - 1) := by
  obtain ⟨k, rfl⟩ : ∃ k, n = k + 1 := ⟨n - 1, by omega⟩
  rw [pk_m1]; rfl
theorem mIn_ok {row na : Nat} (h : row < na) (hna : na ≤ 20) : ¬ mIn (nI row) 0 (nI na - 1) = 0 := by
  rw [mIn_iff, Decidable.not_not]
  refine ⟨nI_le (a := 0) (Nat.zero_le _) (by omega), ?_⟩
  rw [show (1 : Int32) = nI 1 from rfl, pk_sub (by omega)]
  exact nI_le (by omega) (by omega)
set_option maxHeartbeats 4000000 in
set_option maxRecDepth 100000 in
theorem lp_X10_pairO {p : Program} {l : Launch} {e : Env} {s9 : State} {m : MethodId} {args : Array Value} {below : List Frame} {meth : Method} {c : Code} {Q : State → Prop} {G : gG} {A : Nat → Prop} (C : gC p m c cX10_pair 6 s9 args wsX10_pair RX10 G A) (ad : Nat → Nat) (I : Nat → Int32) (F : Nat → Nat → Int32) (rw : Nat) (gd gl : Int64) (na nb : Nat) (hna : F 40 0 = nI na) (hnb : F 40 1 = nI nb) (hna2 : na ≤ 20) (hnb2 : nb ≤ 20) (row : Nat) (hrow : row < na) (z : Option Nat) (kx : ∀ (v : Option Nat) (tk : Nat → Bool) (s : KS) (H : Heap) (locs : List Loc) (ls : Array Slot), v = z → gS G A s9 (mW G ad I (va_up (va_up (va_up F 42 (bF tk)) 41 (oF s.1)) 43 (bF s.2)) rw gd gl) H locs → ls.size = 6 → W p l e (gR 31 750 0 0) s9 m args below meth c H locs 0 0 Q (F0 m 144 ls [.int (oI v)])) :
    ∀ (r : Nat) (a lf : Nat) (tk : Nat → Bool) (s : KS) (H : Heap) (locs : List Loc) (ls : Array Slot), (a + r = row) → (lf ≤ 20) → (pP (mE I F) na nb r a lf tk = z) →  gS G A s9 (mW G ad I (va_up (va_up (va_up F 42 (bF tk)) 41 (oF s.1)) 43 (bF s.2)) rw gd gl) H locs → lv_has ls 6 [(0, .ref (ad 0)), (1, .int (nI row)), (2, .int (nI lf)), (3, .int (nI a))] → W p l e (gR 31 750 0 0) s9 m args below meth c H locs 0 0 Q (F0 m 35 ls []) := by
  have hx := C.1.1.1
  have hb := C.1.1.2.1
  intro r
  induction r with
  | zero =>
    intro a lf tk s H locs ls hi hlf hz h hl
    refine lv_iload_n hx hb dX10_pair_35 rfl (lv_at hl 3 rfl) ?_
    refine lv_iload_n hx hb dX10_pair_36 rfl (lv_at hl 1 rfl) ?_
    refine lv_icmp_gt (tgt := 151) hx hb dX10_pair_37 (by decide) (fun c_37 => ?_) (fun c_37 => ?_)
    · exact absurd c_37 (Int32.not_lt.mpr (nI_le (by omega) (by omega)))
    · refine lv_iconst (v := -1) hx hb dX10_pair_40 (by decide) ?_
      refine lv_istore (lv' := [(4, .int (-1)), (0, .ref (ad 0)), (1, .int (nI row)), (2, .int (nI lf)), (3, .int (nI a))]) hx hb dX10_pair_41 hl (by decide) rfl (fun ls hl => ?_)
      refine lv_iconst (v := 0) hx hb dX10_pair_43 (by decide) ?_
      refine lv_cgi (y := (nI 0)) (rfl) ?_
      refine lv_istore (lv' := [(5, .int (nI 0)), (4, .int (-1)), (0, .ref (ad 0)), (1, .int (nI row)), (2, .int (nI lf)), (3, .int (nI a))]) hx hb dX10_pair_44 hl (by decide) rfl (fun ls hl => ?_)
      refine lp_X10_pair C ad I F rw gd gl tk na nb hna hnb hna2 hnb2 row a lf (by omega) hlf (pI (mE I F) na nb a lf tk nb 0) (fun s H locs ls h hl => ?_) nb 0 s _ _ ls (Nat.zero_add _) rfl h (lv_sub hl [2, 3, 4, 5, 1, 0] rfl)
      have hyl : ∀ x, (pI (mE I F) na nb a lf tk nb 0) = some x → x < nb ∧ 1 ≤ lf := fun x hx9 => pI_lt (mE I F) na nb a lf tk nb 0 x (Nat.zero_add _) hx9
      generalize ey : (pI (mE I F) na nb a lf tk nb 0) = y at h hl hyl
      refine lv_iload hx hb dX10_pair_128 (lv_at hl 4 rfl) ?_
      refine lv_iconst (v := -1) hx hb dX10_pair_130 (by decide) ?_
      refine lv_icmp_eq (tgt := 137) hx hb dX10_pair_131 (by decide) (fun c_131 => ?_) (fun c_131 => ?_)
      · have e131 : y = none := (oI_m1 (fun k z => by have := (hyl k z).1; omega)).mp c_131
        refine lv_iload_n hx hb dX10_pair_137 rfl (lv_at hl 3 rfl) ?_
        refine lv_iload_n hx hb dX10_pair_138 rfl (lv_at hl 1 rfl) ?_
        refine lv_icmp_ne (tgt := 145) hx hb dX10_pair_139 (by decide) (fun c_139 => ?_) (fun c_139 => ?_)
        · exact absurd (by rw [show a = row by omega]) c_139
        · refine lv_iload hx hb dX10_pair_142 (lv_at hl 4 rfl) ?_
          exact kx y (pT tk y) s _ _ ls (by rw [← hz, pP, ey]) h hl.1
      · obtain ⟨x, e131⟩ : ∃ x, y = some x := Option.ne_none_iff_exists'.mp (fun z => c_131 (by rw [z]; rfl))
        have hyl2 := hyl x e131
        obtain ⟨l9, el9⟩ : ∃ y : Int32, y = (nI lf) + (-1) := ⟨_, rfl⟩
        refine lv_iinc (v := l9) (lv' := [(2, .int l9), (0, .ref (ad 0)), (1, .int (nI row)), (3, .int (nI a)), (4, .int (oI y))]) hx hb dX10_pair_134 hl (k := 2) rfl (by rw [el9]; rfl) (by decide) rfl (fun ls hl => ?_)
        refine lv_iload_n hx hb dX10_pair_137 rfl (lv_at hl 3 rfl) ?_
        refine lv_iload_n hx hb dX10_pair_138 rfl (lv_at hl 2 rfl) ?_
        refine lv_icmp_ne (tgt := 145) hx hb dX10_pair_139 (by decide) (fun c_139 => ?_) (fun c_139 => ?_)
        · exact absurd (by rw [show a = row by omega]) c_139
        · refine lv_iload hx hb dX10_pair_142 (lv_at hl 4 rfl) ?_
          exact kx y (pT tk y) s _ _ ls (by rw [← hz, pP, ey]) h hl.1
  | succ r ih =>
    intro a lf tk s H locs ls hi hlf hz h hl
    refine lv_iload_n hx hb dX10_pair_35 rfl (lv_at hl 3 rfl) ?_
    refine lv_iload_n hx hb dX10_pair_36 rfl (lv_at hl 1 rfl) ?_
    refine lv_icmp_gt (tgt := 151) hx hb dX10_pair_37 (by decide) (fun c_37 => ?_) (fun c_37 => ?_)
    · exact absurd c_37 (Int32.not_lt.mpr (nI_le (by omega) (by omega)))
    · refine lv_iconst (v := -1) hx hb dX10_pair_40 (by decide) ?_
      refine lv_istore (lv' := [(4, .int (-1)), (0, .ref (ad 0)), (1, .int (nI row)), (2, .int (nI lf)), (3, .int (nI a))]) hx hb dX10_pair_41 hl (by decide) rfl (fun ls hl => ?_)
      refine lv_iconst (v := 0) hx hb dX10_pair_43 (by decide) ?_
      refine lv_cgi (y := (nI 0)) (rfl) ?_
      refine lv_istore (lv' := [(5, .int (nI 0)), (4, .int (-1)), (0, .ref (ad 0)), (1, .int (nI row)), (2, .int (nI lf)), (3, .int (nI a))]) hx hb dX10_pair_44 hl (by decide) rfl (fun ls hl => ?_)
      refine lp_X10_pair C ad I F rw gd gl tk na nb hna hnb hna2 hnb2 row a lf (by omega) hlf (pI (mE I F) na nb a lf tk nb 0) (fun s H locs ls h hl => ?_) nb 0 s _ _ ls (Nat.zero_add _) rfl h (lv_sub hl [2, 3, 4, 5, 1, 0] rfl)
      have hyl : ∀ x, (pI (mE I F) na nb a lf tk nb 0) = some x → x < nb ∧ 1 ≤ lf := fun x hx9 => pI_lt (mE I F) na nb a lf tk nb 0 x (Nat.zero_add _) hx9
      generalize ey : (pI (mE I F) na nb a lf tk nb 0) = y at h hl hyl
      refine lv_iload hx hb dX10_pair_128 (lv_at hl 4 rfl) ?_
      refine lv_iconst (v := -1) hx hb dX10_pair_130 (by decide) ?_
      refine lv_icmp_eq (tgt := 137) hx hb dX10_pair_131 (by decide) (fun c_131 => ?_) (fun c_131 => ?_)
      · have e131 : y = none := (oI_m1 (fun k z => by have := (hyl k z).1; omega)).mp c_131
        refine lv_iload_n hx hb dX10_pair_137 rfl (lv_at hl 3 rfl) ?_
        refine lv_iload_n hx hb dX10_pair_138 rfl (lv_at hl 1 rfl) ?_
        refine lv_icmp_ne (tgt := 145) hx hb dX10_pair_139 (by decide) (fun c_139 => ?_) (fun c_139 => ?_)
        · refine lv_iinc (v := nI (a + 1)) (lv' := [(3, .int (nI (a + 1))), (0, .ref (ad 0)), (1, .int (nI row)), (2, .int (nI lf)), (4, .int (oI y))]) hx hb dX10_pair_145 hl (k := 3) rfl (nI_1 _) (by decide) rfl (fun ls hl => ?_)
          refine lv_goto (tgt := 35) hx hb dX10_pair_148 (by decide) ?_
          exact ih (a + 1) lf (pT tk y) s _ _ ls (by omega) (by omega) (by rw [← hz, pP, ey, e131]; rfl) h (lv_sub hl [1, 2, 3, 0] rfl)
        · exact absurd (nI_inj2 c_139 (by omega) (by omega)) (by omega)
      · obtain ⟨x, e131⟩ : ∃ x, y = some x := Option.ne_none_iff_exists'.mp (fun z => c_131 (by rw [z]; rfl))
        have hyl2 := hyl x e131
        obtain ⟨l9, el9⟩ : ∃ y : Int32, y = (nI lf) + (-1) := ⟨_, rfl⟩
        refine lv_iinc (v := l9) (lv' := [(2, .int l9), (0, .ref (ad 0)), (1, .int (nI row)), (3, .int (nI a)), (4, .int (oI y))]) hx hb dX10_pair_134 hl (k := 2) rfl (by rw [el9]; rfl) (by decide) rfl (fun ls hl => ?_)
        refine lv_iload_n hx hb dX10_pair_137 rfl (lv_at hl 3 rfl) ?_
        refine lv_iload_n hx hb dX10_pair_138 rfl (lv_at hl 2 rfl) ?_
        refine lv_icmp_ne (tgt := 145) hx hb dX10_pair_139 (by decide) (fun c_139 => ?_) (fun c_139 => ?_)
        · refine lv_iinc (v := nI (a + 1)) (lv' := [(3, .int (nI (a + 1))), (2, .int l9), (0, .ref (ad 0)), (1, .int (nI row)), (4, .int (oI y))]) hx hb dX10_pair_145 hl (k := 3) rfl (nI_1 _) (by decide) rfl (fun ls hl => ?_)
          refine lv_goto (tgt := 35) hx hb dX10_pair_148 (by decide) ?_
          have e9 : l9 = nI (lf - 1) := by rw [el9]; exact nI_dec hyl2.2
          subst e9
          exact ih (a + 1) (lf - 1) (pT tk y) s _ _ ls (by omega) (by omega) (by rw [← hz, pP, ey, e131]; rfl) h (lv_sub hl [2, 3, 1, 0] rfl)
        · exact absurd (nI_inj2 c_139 (by omega) (by omega)) (by omega)

set_option maxHeartbeats 4000000 in
set_option maxRecDepth 100000 in
theorem m_pairN (l : Launch) (G : gG) (ad : Nat → Nat) (I : Nat → Int32) (F : Nat → Nat → Int32) (rw : Nat) (gd gl : Int64) (tk : Nat → Bool) (na nb : Nat) (hna : F 40 0 = nI na) (hnb : F 40 1 = nI nb) (hna2 : na ≤ 20) (hnb2 : nb ≤ 20) (h0 : Nat → Option Nat) (t0 : Nat → Bool) (x : Int32) (hx9 : mIn x 0 (nI na - 1) = 0) : cM l yX10_pair wsX10_pair 32 800 (0) (0) G [.ref (ad 0), .int x] (mW G ad I (va_up (va_up (va_up F 42 (bF tk)) 41 (oF h0)) 43 (bF t0)) rw gd gl) (qI G (S := Unit) (fun r _ => r = -1) (fun _ => mW G ad (upd I 0 0) (va_up (va_up (va_up F 42 (bF tk)) 41 (oF h0)) 43 (bF t0)) rw gd gl)) := by
  refine o_M (cc := cX10_pair) (maxL := 6) (ret := (some .int)) (own := RX10) (by decide +kernel) rfl rfl (Nat.le_of_ble_eq_true rfl) ?_
  intro p e s m below meth c A ls H locs hA C h hr hlk hnm hl
  have hx := C.1.1.1
  have hb := C.1.1.2.1
  have hl : lv_has ls 6 [(0, .ref (ad 0)), (1, .int x)] := hl
  have wd0 : Cond.fieldLink RX10 106 "ScaleHouseModel" "thrown" "I" ∈ wsX10_pair := by decide +kernel
  have hinX10 : ∀ w ∈ wsX100, w ∈ wsX10_pair := fun _ h => List.mem_cons_of_mem _ (List.mem_append_right _ h)
  have wd1 : Cond.fieldLink RX10 86 "ScaleHouseModel" "rows" "[I" ∈ wsX10_pair := by decide +kernel
  refine lv_aload_n hx hb dX10_pair_0 rfl (lv_at hl 0 rfl) ?_
  refine lv_iconst (v := 0) hx hb dX10_pair_1 (by decide) ?_
  refine r_put C h 0 rfl (Cn := RX10) (T := TX10) (N := 50) rfl hinX10 tyX10 tyX10_ok nmX10 0 (by decide) (index := 106) (ref := "ScaleHouseModel") wd0 rfl rfl (v := .int 0) rfl rfl (show 0 < 50 by decide) dX10_pair_2 (fun H locs h => ?_)
  have h : gS G A s (mW G ad (upd I 0 0) (va_up (va_up (va_up F 42 (bF tk)) 41 (oF h0)) 43 (bF t0)) rw gd gl) H locs := h
  refine lv_iload_n hx hb dX10_pair_5 rfl (lv_at hl 1 rfl) ?_
  refine lv_iconst (v := 0) hx hb dX10_pair_6 (by decide) ?_
  refine lv_aload_n hx hb dX10_pair_7 rfl (lv_at hl 0 rfl) ?_
  refine r_get C h 0 rfl (Cn := RX10) (T := TX10) (N := 50) rfl hinX10 40 (by decide) (index := 86) (ref := "ScaleHouseModel") wd1 rfl (v := .ref (ad 40)) rfl dX10_pair_8 ?_
  refine lv_iconst (v := 0) hx hb dX10_pair_11 (by decide) ?_
  refine r_iald C h 25 rfl (i := 0) (by unfold vp_in; decide) dX10_pair_12 ?_
  refine lv_cgi (y := ((F 40) (0 : Int32).toNatClampNeg)) rfl ?_
  refine lv_cgi (y := (nI na)) (hna) ?_
  refine lv_iconst (v := 1) hx hb dX10_pair_13 (by decide) ?_
  refine lv_isub hx hb dX10_pair_14 ?_
  have hp : List.Perm (mW G ad (upd I 0 0) (va_up (va_up (va_up F 42 (bF tk)) 41 (oF h0)) 43 (bF t0)) rw gd gl : va_W) ([] ++ ([((ad 0), .inr (10, [.int 0, .ref (ad 1), .ref (ad 2), .ref (ad 3), .ref (ad 4), .ref (ad 5), .ref (ad 6), .ref (ad 7), .ref (ad 8), .ref (ad 9), .ref (ad 10), .ref (ad 11), .ref (ad 12), .ref (ad 13), .ref (ad 14), .ref (ad 15), .ref (ad 16), .ref (ad 17), .ref (ad 18), .ref (ad 19), .ref (ad 20), .ref (ad 21), .ref (ad 22), .int (I 23), .int (I 24), .int (I 25), .int (I 26), .int (I 27), .int (I 28), .int (I 29), .ref rw, .int (I 31), .int (I 32), .int (I 33), .int (I 34), .int (I 35), .long gd, .long gl, .ref (ad 38), .ref (ad 39), .ref (ad 40), .ref (ad 41), .ref (ad 42), .ref (ad 43), .int (I 44), .int (I 45), .int (I 46), .int (I 47), .int (I 48), .int (I 49)])), ((ad 1), .inl (G.2.2 0, 120, .inl (F 1))), ((ad 2), .inl (G.2.2 0, 2400, .inl (F 2))), ((ad 3), .inl (G.2.2 1, 20, .inl (F 3))), ((ad 4), .inl (G.2.2 1, 20, .inl (F 4))), ((ad 5), .inl (G.2.2 1, 20, .inl (F 5))), ((ad 6), .inl (G.2.2 1, 60, .inl (F 6))), ((ad 7), .inl (G.2.2 1, 60, .inl (F 7))), ((ad 8), .inl (G.2.2 1, 60, .inl (F 8))), ((ad 9), .inl (G.2.2 1, 60, .inl (F 9))), ((ad 10), .inl (G.2.2 1, 100, .inl (F 10))), ((ad 11), .inl (G.2.2 1, 100, .inl (F 11))), ((ad 12), .inl (G.2.2 1, 100, .inl (F 12))), ((ad 13), .inl (G.2.2 1, 100, .inl (F 13))), ((ad 14), .inl (G.2.2 1, 100, .inl (F 14))), ((ad 15), .inl (G.2.2 1, 100, .inl (F 15))), ((ad 16), .inl (G.2.2 1, 100, .inl (F 16))), ((ad 17), .inl (G.2.2 1, 100, .inl (F 17))), ((ad 18), .inl (G.2.2 1, 100, .inl (F 18))), ((ad 19), .inl (G.2.2 1, 6, .inl (F 19))), ((ad 20), .inl (G.2.2 1, 20000, .inl (F 20))), ((ad 21), .inl (G.2.2 1, 20000, .inl (F 21))), ((ad 22), .inl (G.2.2 1, 20000, .inl (F 22))), ((ad 38), .inl (G.2.2 1, 40, .inl (F 38))), ((ad 39), .inl (G.2.2 1, 40, .inl (F 39))), ((ad 40), .inl (G.2.2 1, 2, .inl (F 40))), ((ad 41), .inl (G.2.2 1, 20, .inl (oF h0))), ((ad 42), .inl (G.2.2 3, 20, .inl (bF tk))), ((ad 43), .inl (G.2.2 3, 20, .inl (bF t0)))])) := List.Perm.refl _
  refine k_i C h hp (r_runS C h hp (As := [.int x, .int 0, .int ((nI na) - 1)]) (rest := []) (m_isIn l G x 0 ((nI na) - 1)) (va_cwS 3 C.1.1.2.2.2.2 gX10_pair_X10_isIn rfl rfl rfl (by decide +kernel) ⟨Nat.le_of_ble_eq_true rfl, Nat.le_of_ble_eq_true rfl⟩) rfl hl.1 (Nat.le_of_ble_eq_true rfl) dX10_pair_15 ⟨Nat.le_of_ble_eq_true rfl, Nat.le_of_ble_eq_true rfl⟩) (fun r_1 u_2 H locs hw_3 h => ?_)
  have h : gS G A s (mW G ad (upd I 0 0) (va_up (va_up (va_up F 42 (bF tk)) 41 (oF h0)) 43 (bF t0)) rw gd gl) H locs := h
  refine W.widen (k := 0) (n := 0) (Nat.le_of_ble_eq_true rfl) (Nat.le_of_ble_eq_true rfl) ?_
  subst hw_3
  refine lv_if_ne (tgt := 23) hx hb dX10_pair_18 (by decide) (fun c_18 => ?_) (fun c_18 => ?_)
  · exact absurd hx9 c_18
  · refine lv_iconst (v := -1) hx hb dX10_pair_21 (by decide) ?_
    exact r_iret C h hr hlk (Nat.zero_le _) (Nat.zero_le _) () (rfl) (rfl) dX10_pair_22

set_option maxHeartbeats 4000000 in
set_option maxRecDepth 100000 in
theorem m_pair (l : Launch) (G : gG) (ad : Nat → Nat) (I : Nat → Int32) (F : Nat → Nat → Int32) (rw : Nat) (gd gl : Int64) (tk : Nat → Bool) (na nb : Nat) (hna : F 40 0 = nI na) (hnb : F 40 1 = nI nb) (hna2 : na ≤ 20) (hnb2 : nb ≤ 20) (h0 : Nat → Option Nat) (t0 : Nat → Bool) (row : Nat) (hrow : row < na) : cM l yX10_pair wsX10_pair 31 750 (0) (0) G [.ref (ad 0), .int (nI row)] (mW G ad I (va_up (va_up (va_up F 42 (bF tk)) 41 (oF h0)) 43 (bF t0)) rw gd gl) (qI G (S := (Nat → Bool) × KS) (fun r _ => r = oI (pP (mE I F) na nb row 0 (kX (mE I F) 0 na nb (flg false 20 tk)) (flg false 20 tk))) (fun u => mW G ad (upd I 0 0) (va_up (va_up (va_up F 42 (bF u.1)) 41 (oF u.2.1)) 43 (bF u.2.2)) rw gd gl)) := by
  refine o_M (cc := cX10_pair) (maxL := 6) (ret := (some .int)) (own := RX10) (by decide +kernel) rfl rfl (Nat.le_of_ble_eq_true rfl) ?_
  intro p e s m below meth c A ls H locs hA C h hr hlk hnm hl
  have hx := C.1.1.1
  have hb := C.1.1.2.1
  have hl : lv_has ls 6 [(0, .ref (ad 0)), (1, .int (nI row))] := hl
  have wd0 : Cond.fieldLink RX10 106 "ScaleHouseModel" "thrown" "I" ∈ wsX10_pair := by decide +kernel
  have hinX10 : ∀ w ∈ wsX100, w ∈ wsX10_pair := fun _ h => List.mem_cons_of_mem _ (List.mem_append_right _ h)
  have wd1 : Cond.fieldLink RX10 86 "ScaleHouseModel" "rows" "[I" ∈ wsX10_pair := by decide +kernel
  refine lv_aload_n hx hb dX10_pair_0 rfl (lv_at hl 0 rfl) ?_
  refine lv_iconst (v := 0) hx hb dX10_pair_1 (by decide) ?_
  refine r_put C h 0 rfl (Cn := RX10) (T := TX10) (N := 50) rfl hinX10 tyX10 tyX10_ok nmX10 0 (by decide) (index := 106) (ref := "ScaleHouseModel") wd0 rfl rfl (v := .int 0) rfl rfl (show 0 < 50 by decide) dX10_pair_2 (fun H locs h => ?_)
  have h : gS G A s (mW G ad (upd I 0 0) (va_up (va_up (va_up F 42 (bF tk)) 41 (oF h0)) 43 (bF t0)) rw gd gl) H locs := h
  refine lv_iload_n hx hb dX10_pair_5 rfl (lv_at hl 1 rfl) ?_
  refine lv_iconst (v := 0) hx hb dX10_pair_6 (by decide) ?_
  refine lv_aload_n hx hb dX10_pair_7 rfl (lv_at hl 0 rfl) ?_
  refine r_get C h 0 rfl (Cn := RX10) (T := TX10) (N := 50) rfl hinX10 40 (by decide) (index := 86) (ref := "ScaleHouseModel") wd1 rfl (v := .ref (ad 40)) rfl dX10_pair_8 ?_
  refine lv_iconst (v := 0) hx hb dX10_pair_11 (by decide) ?_
  refine r_iald C h 25 rfl (i := 0) (by unfold vp_in; decide) dX10_pair_12 ?_
  refine lv_cgi (y := ((F 40) (0 : Int32).toNatClampNeg)) rfl ?_
  refine lv_cgi (y := (nI na)) (hna) ?_
  refine lv_iconst (v := 1) hx hb dX10_pair_13 (by decide) ?_
  refine lv_isub hx hb dX10_pair_14 ?_
  have hp : List.Perm (mW G ad (upd I 0 0) (va_up (va_up (va_up F 42 (bF tk)) 41 (oF h0)) 43 (bF t0)) rw gd gl : va_W) ([] ++ ([((ad 0), .inr (10, [.int 0, .ref (ad 1), .ref (ad 2), .ref (ad 3), .ref (ad 4), .ref (ad 5), .ref (ad 6), .ref (ad 7), .ref (ad 8), .ref (ad 9), .ref (ad 10), .ref (ad 11), .ref (ad 12), .ref (ad 13), .ref (ad 14), .ref (ad 15), .ref (ad 16), .ref (ad 17), .ref (ad 18), .ref (ad 19), .ref (ad 20), .ref (ad 21), .ref (ad 22), .int (I 23), .int (I 24), .int (I 25), .int (I 26), .int (I 27), .int (I 28), .int (I 29), .ref rw, .int (I 31), .int (I 32), .int (I 33), .int (I 34), .int (I 35), .long gd, .long gl, .ref (ad 38), .ref (ad 39), .ref (ad 40), .ref (ad 41), .ref (ad 42), .ref (ad 43), .int (I 44), .int (I 45), .int (I 46), .int (I 47), .int (I 48), .int (I 49)])), ((ad 1), .inl (G.2.2 0, 120, .inl (F 1))), ((ad 2), .inl (G.2.2 0, 2400, .inl (F 2))), ((ad 3), .inl (G.2.2 1, 20, .inl (F 3))), ((ad 4), .inl (G.2.2 1, 20, .inl (F 4))), ((ad 5), .inl (G.2.2 1, 20, .inl (F 5))), ((ad 6), .inl (G.2.2 1, 60, .inl (F 6))), ((ad 7), .inl (G.2.2 1, 60, .inl (F 7))), ((ad 8), .inl (G.2.2 1, 60, .inl (F 8))), ((ad 9), .inl (G.2.2 1, 60, .inl (F 9))), ((ad 10), .inl (G.2.2 1, 100, .inl (F 10))), ((ad 11), .inl (G.2.2 1, 100, .inl (F 11))), ((ad 12), .inl (G.2.2 1, 100, .inl (F 12))), ((ad 13), .inl (G.2.2 1, 100, .inl (F 13))), ((ad 14), .inl (G.2.2 1, 100, .inl (F 14))), ((ad 15), .inl (G.2.2 1, 100, .inl (F 15))), ((ad 16), .inl (G.2.2 1, 100, .inl (F 16))), ((ad 17), .inl (G.2.2 1, 100, .inl (F 17))), ((ad 18), .inl (G.2.2 1, 100, .inl (F 18))), ((ad 19), .inl (G.2.2 1, 6, .inl (F 19))), ((ad 20), .inl (G.2.2 1, 20000, .inl (F 20))), ((ad 21), .inl (G.2.2 1, 20000, .inl (F 21))), ((ad 22), .inl (G.2.2 1, 20000, .inl (F 22))), ((ad 38), .inl (G.2.2 1, 40, .inl (F 38))), ((ad 39), .inl (G.2.2 1, 40, .inl (F 39))), ((ad 40), .inl (G.2.2 1, 2, .inl (F 40))), ((ad 41), .inl (G.2.2 1, 20, .inl (oF h0))), ((ad 42), .inl (G.2.2 3, 20, .inl (bF tk))), ((ad 43), .inl (G.2.2 3, 20, .inl (bF t0)))])) := List.Perm.refl _
  refine k_i C h hp (r_runS C h hp (As := [.int (nI row), .int 0, .int ((nI na) - 1)]) (rest := []) (m_isIn l G (nI row) 0 ((nI na) - 1)) (va_cwS 3 C.1.1.2.2.2.2 gX10_pair_X10_isIn rfl rfl rfl (by decide +kernel) ⟨Nat.le_of_ble_eq_true rfl, Nat.le_of_ble_eq_true rfl⟩) rfl hl.1 (Nat.le_of_ble_eq_true rfl) dX10_pair_15 ⟨Nat.le_of_ble_eq_true rfl, Nat.le_of_ble_eq_true rfl⟩) (fun r_1 u_2 H locs hw_3 h => ?_)
  have h : gS G A s (mW G ad (upd I 0 0) (va_up (va_up (va_up F 42 (bF tk)) 41 (oF h0)) 43 (bF t0)) rw gd gl) H locs := h
  refine W.widen (k := 0) (n := 0) (Nat.le_of_ble_eq_true rfl) (Nat.le_of_ble_eq_true rfl) ?_
  subst hw_3
  refine lv_if_ne (tgt := 23) hx hb dX10_pair_18 (by decide) (fun c_18 => ?_) (fun c_18 => ?_)
  · refine lv_aload_n hx hb dX10_pair_23 rfl (lv_at hl 0 rfl) ?_
    have hp : List.Perm (mW G ad (upd I 0 0) (va_up (va_up (va_up F 42 (bF tk)) 41 (oF h0)) 43 (bF t0)) rw gd gl : va_W) ([((ad 0), .inr (10, [.int 0, .ref (ad 1), .ref (ad 2), .ref (ad 3), .ref (ad 4), .ref (ad 5), .ref (ad 6), .ref (ad 7), .ref (ad 8), .ref (ad 9), .ref (ad 10), .ref (ad 11), .ref (ad 12), .ref (ad 13), .ref (ad 14), .ref (ad 15), .ref (ad 16), .ref (ad 17), .ref (ad 18), .ref (ad 19), .ref (ad 20), .ref (ad 21), .ref (ad 22), .int (I 23), .int (I 24), .int (I 25), .int (I 26), .int (I 27), .int (I 28), .int (I 29), .ref rw, .int (I 31), .int (I 32), .int (I 33), .int (I 34), .int (I 35), .long gd, .long gl, .ref (ad 38), .ref (ad 39), .ref (ad 40), .ref (ad 41), .ref (ad 42), .ref (ad 43), .int (I 44), .int (I 45), .int (I 46), .int (I 47), .int (I 48), .int (I 49)])), ((ad 1), .inl (G.2.2 0, 120, .inl (F 1))), ((ad 2), .inl (G.2.2 0, 2400, .inl (F 2))), ((ad 3), .inl (G.2.2 1, 20, .inl (F 3))), ((ad 4), .inl (G.2.2 1, 20, .inl (F 4))), ((ad 5), .inl (G.2.2 1, 20, .inl (F 5))), ((ad 6), .inl (G.2.2 1, 60, .inl (F 6))), ((ad 7), .inl (G.2.2 1, 60, .inl (F 7))), ((ad 8), .inl (G.2.2 1, 60, .inl (F 8))), ((ad 9), .inl (G.2.2 1, 60, .inl (F 9))), ((ad 10), .inl (G.2.2 1, 100, .inl (F 10))), ((ad 11), .inl (G.2.2 1, 100, .inl (F 11))), ((ad 12), .inl (G.2.2 1, 100, .inl (F 12))), ((ad 13), .inl (G.2.2 1, 100, .inl (F 13))), ((ad 14), .inl (G.2.2 1, 100, .inl (F 14))), ((ad 15), .inl (G.2.2 1, 100, .inl (F 15))), ((ad 16), .inl (G.2.2 1, 100, .inl (F 16))), ((ad 17), .inl (G.2.2 1, 100, .inl (F 17))), ((ad 18), .inl (G.2.2 1, 100, .inl (F 18))), ((ad 19), .inl (G.2.2 1, 6, .inl (F 19))), ((ad 20), .inl (G.2.2 1, 20000, .inl (F 20))), ((ad 21), .inl (G.2.2 1, 20000, .inl (F 21))), ((ad 22), .inl (G.2.2 1, 20000, .inl (F 22))), ((ad 38), .inl (G.2.2 1, 40, .inl (F 38))), ((ad 39), .inl (G.2.2 1, 40, .inl (F 39))), ((ad 40), .inl (G.2.2 1, 2, .inl (F 40))), ((ad 41), .inl (G.2.2 1, 20, .inl (oF h0))), ((ad 42), .inl (G.2.2 3, 20, .inl (bF tk))), ((ad 43), .inl (G.2.2 3, 20, .inl (bF t0)))] ++ []) := pm 29 rfl [0, 1, 2, 3, 4, 5, 6, 7, 8, 9, 10, 11, 12, 13, 14, 15, 16, 17, 18, 19, 20, 21, 22, 23, 24, 25, 26, 27, 28] (by decide +kernel) rfl
    refine k_v C h hp (r_runV C h hp 0 rfl rfl (As := []) (rest := []) (m_free l G ad (upd I 0 0) (va_up (va_up (va_up F 42 (bF tk)) 41 (oF h0)) 43 (bF t0)) rw gd gl) (cwV 0 C.1.1.2.2.2.2 gX10_pair_X10_free rfl rfl rfl (by decide +kernel) ⟨by simp only [gR]; omega, by simp only [gR]; omega⟩) rfl hl.1 (Nat.le_of_ble_eq_true rfl) dX10_pair_24 ⟨Nat.le_of_ble_eq_true rfl, Nat.le_of_ble_eq_true rfl⟩) (fun u_5 H locs hw_6 h => ?_)
    rw [show flF 0 20 ((va_up (va_up (va_up F 42 (bF tk)) 41 (oF h0)) 43 (bF t0)) 42) = bF (flg false 20 tk) from bF_fl 20 tk] at h
    have h : gS G A s (mW G ad (upd I 0 0) (va_up (va_up (va_up F 42 (bF (flg false 20 tk))) 41 (oF h0)) 43 (bF t0)) rw gd gl) H locs := h
    refine W.widen (k := 0) (n := 0) (Nat.le_of_ble_eq_true rfl) (Nat.le_of_ble_eq_true rfl) ?_
    refine lv_aload_n hx hb dX10_pair_27 rfl (lv_at hl 0 rfl) ?_
    refine lv_iconst (v := 0) hx hb dX10_pair_28 (by decide) ?_
    refine lv_cgi (y := (nI 0)) (rfl) ?_
    have hp : List.Perm (mW G ad (upd I 0 0) (va_up (va_up (va_up F 42 (bF (flg false 20 tk))) 41 (oF h0)) 43 (bF t0)) rw gd gl : va_W) ([((ad 0), .inr (10, [.int 0, .ref (ad 1), .ref (ad 2), .ref (ad 3), .ref (ad 4), .ref (ad 5), .ref (ad 6), .ref (ad 7), .ref (ad 8), .ref (ad 9), .ref (ad 10), .ref (ad 11), .ref (ad 12), .ref (ad 13), .ref (ad 14), .ref (ad 15), .ref (ad 16), .ref (ad 17), .ref (ad 18), .ref (ad 19), .ref (ad 20), .ref (ad 21), .ref (ad 22), .int (I 23), .int (I 24), .int (I 25), .int (I 26), .int (I 27), .int (I 28), .int (I 29), .ref rw, .int (I 31), .int (I 32), .int (I 33), .int (I 34), .int (I 35), .long gd, .long gl, .ref (ad 38), .ref (ad 39), .ref (ad 40), .ref (ad 41), .ref (ad 42), .ref (ad 43), .int (I 44), .int (I 45), .int (I 46), .int (I 47), .int (I 48), .int (I 49)])), ((ad 1), .inl (G.2.2 0, 120, .inl (F 1))), ((ad 2), .inl (G.2.2 0, 2400, .inl (F 2))), ((ad 3), .inl (G.2.2 1, 20, .inl (F 3))), ((ad 4), .inl (G.2.2 1, 20, .inl (F 4))), ((ad 5), .inl (G.2.2 1, 20, .inl (F 5))), ((ad 6), .inl (G.2.2 1, 60, .inl (F 6))), ((ad 7), .inl (G.2.2 1, 60, .inl (F 7))), ((ad 8), .inl (G.2.2 1, 60, .inl (F 8))), ((ad 9), .inl (G.2.2 1, 60, .inl (F 9))), ((ad 10), .inl (G.2.2 1, 100, .inl (F 10))), ((ad 11), .inl (G.2.2 1, 100, .inl (F 11))), ((ad 12), .inl (G.2.2 1, 100, .inl (F 12))), ((ad 13), .inl (G.2.2 1, 100, .inl (F 13))), ((ad 14), .inl (G.2.2 1, 100, .inl (F 14))), ((ad 15), .inl (G.2.2 1, 100, .inl (F 15))), ((ad 16), .inl (G.2.2 1, 100, .inl (F 16))), ((ad 17), .inl (G.2.2 1, 100, .inl (F 17))), ((ad 18), .inl (G.2.2 1, 100, .inl (F 18))), ((ad 19), .inl (G.2.2 1, 6, .inl (F 19))), ((ad 20), .inl (G.2.2 1, 20000, .inl (F 20))), ((ad 21), .inl (G.2.2 1, 20000, .inl (F 21))), ((ad 22), .inl (G.2.2 1, 20000, .inl (F 22))), ((ad 38), .inl (G.2.2 1, 40, .inl (F 38))), ((ad 39), .inl (G.2.2 1, 40, .inl (F 39))), ((ad 40), .inl (G.2.2 1, 2, .inl (F 40))), ((ad 41), .inl (G.2.2 1, 20, .inl (oF h0))), ((ad 42), .inl (G.2.2 3, 20, .inl (bF (flg false 20 tk)))), ((ad 43), .inl (G.2.2 3, 20, .inl (bF t0)))] ++ []) := pm 29 rfl [0, 1, 2, 3, 4, 5, 6, 7, 8, 9, 10, 11, 12, 13, 14, 15, 16, 17, 18, 19, 20, 21, 22, 23, 24, 25, 26, 27, 28] (by decide +kernel) rfl
    refine k_i C h hp (r_runV C h hp 0 rfl rfl (As := [.int (nI 0)]) (rest := []) (m_mostFrom l G ad (upd I 0 0) F rw gd gl (flg false 20 tk) na nb hna hnb hna2 hnb2 0 (Nat.zero_le _) h0 t0) (cwV 1 C.1.1.2.2.2.2 gX10_pair_X10_mostFrom rfl rfl rfl (by decide +kernel) ⟨by simp only [gR]; omega, by simp only [gR]; omega⟩) rfl hl.1 (Nat.le_of_ble_eq_true rfl) dX10_pair_29 ⟨Nat.le_of_ble_eq_true rfl, Nat.le_of_ble_eq_true rfl⟩) (fun r_7 u1 H locs hw_8 h => ?_)
    have h : gS G A s (mW G ad (upd I 0 0) (va_up (va_up (va_up F 42 (bF (flg false 20 tk))) 41 (oF u1.1)) 43 (bF u1.2)) rw gd gl) H locs := h
    refine W.widen (k := 0) (n := 0) (Nat.le_of_ble_eq_true rfl) (Nat.le_of_ble_eq_true rfl) ?_
    rw [show mE (upd I 0 0) F = mE I F from rfl] at hw_8
    subst hw_8
    refine lv_istore_n (lv' := [(2, .int (nI (kX (mE I F) 0 na nb (flg false 20 tk)))), (0, .ref (ad 0)), (1, .int (nI row))]) hx hb dX10_pair_32 rfl hl (by decide) rfl (fun ls hl => ?_)
    refine lv_iconst (v := 0) hx hb dX10_pair_33 (by decide) ?_
    refine lv_cgi (y := (nI 0)) (rfl) ?_
    refine lv_istore_n (lv' := [(3, .int (nI 0)), (2, .int (nI (kX (mE I F) 0 na nb (flg false 20 tk)))), (0, .ref (ad 0)), (1, .int (nI row))]) hx hb dX10_pair_34 rfl hl (by decide) rfl (fun ls hl => ?_)
    refine lp_X10_pairO C ad (upd I 0 0) F rw gd gl na nb hna hnb hna2 hnb2 row hrow (pP (mE I F) na nb row 0 (kX (mE I F) 0 na nb (flg false 20 tk)) (flg false 20 tk)) (fun v tk9 s9 H locs ls ev h hsz => ?_) row 0 (kX (mE I F) 0 na nb (flg false 20 tk)) (flg false 20 tk) u1 _ _ ls (Nat.zero_add _) (Nat.le_trans (kX_le (Nat.zero_le _)) hnb2) rfl h (lv_sub hl [2, 3, 1, 0] rfl)
    exact r_iret C h hr hlk (Nat.zero_le _) (Nat.zero_le _) (tk9, s9) (by rw [ev]) (rfl) dX10_pair_144
  · exact absurd c_18 (mIn_ok hrow hna2)
