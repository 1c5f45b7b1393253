/-! ===== ScaleHouse: logs, defects, checks, habit ===== -/
def hLok (ng : Nat) (a b c d : Int32) : Bool := decide (¬ mIn a 0 5 = 0) && decide (¬ mIn b 0 5 = 0) && decide (¬ mIn c 1 99 = 0) && decide (¬ mIn d 1 60 = 0) && decide (ng < 100)

set_option maxHeartbeats 4000000 in
set_option maxRecDepth 100000 in
theorem h_logN (l : Launch) (G : gG) (ad : Nat → Nat) (ng nw : Nat) (lo : Nat → Nat) (D : Nat → Nat → Int32) (a b c9 d : Int32) (hng : ng ≤ 100) (hok : hLok ng a b c9 d = false) : cM l yX9_log wsX9_log 2 60 (1) (9) G [.ref (ad 0), .int a, .int b, .int c9, .int d] ([((ad 0), .inr (9, [.ref (ad 1), .ref (ad 3), .ref (ad 8), .ref (ad 12), .ref (ad 13), .ref (ad 17), .ref (ad 18), .ref (ad 19), .ref (ad 20), .ref (ad 21), .ref (ad 25), .ref (ad 37), .int (nI ng), .int (nI nw)])), ((ad 18), .inl (G.2.2 5, 100, .inr (.inr (.inr (.inr (oA ng lo))))))] ++ (plG ng lo D)) (qI G (S := Unit) (fun r _ => r = -1) (fun _ => [((ad 0), .inr (9, [.ref (ad 1), .ref (ad 3), .ref (ad 8), .ref (ad 12), .ref (ad 13), .ref (ad 17), .ref (ad 18), .ref (ad 19), .ref (ad 20), .ref (ad 21), .ref (ad 25), .ref (ad 37), .int (nI ng), .int (nI nw)])), ((ad 18), .inl (G.2.2 5, 100, .inr (.inr (.inr (.inr (oA ng lo))))))] ++ (plG ng lo D))) := by
  refine o_M (cc := cX9_log) (maxL := 5) (ret := (some .int)) (own := RX9) (by decide +kernel) rfl rfl (Nat.le_of_ble_eq_true rfl) ?_
  intro p e s m below meth c A ls H locs hA C h hr hlk hnm hl
  have hx := C.1.1.1
  have hb := C.1.1.2.1
  have hl : lv_has ls 5 [(0, .ref (ad 0)), (1, .int a), (2, .int b), (3, .int c9), (4, .int d)] := hl
  have wd0 : Cond.fieldLink RX9 78 "ScaleHouse" "logCount" "I" ∈ wsX9_log := by decide +kernel
  have hinX9 : ∀ w ∈ wsX90, w ∈ wsX9_log := fun _ h => List.mem_cons_of_mem _ (List.mem_append_left _ (List.mem_append_right _ h))
  refine lv_iload_n hx hb dX9_log_0 rfl (lv_at hl 1 rfl) ?_
  have hp : List.Perm ([((ad 0), .inr (9, [.ref (ad 1), .ref (ad 3), .ref (ad 8), .ref (ad 12), .ref (ad 13), .ref (ad 17), .ref (ad 18), .ref (ad 19), .ref (ad 20), .ref (ad 21), .ref (ad 25), .ref (ad 37), .int (nI ng), .int (nI nw)])), ((ad 18), .inl (G.2.2 5, 100, .inr (.inr (.inr (.inr (oA ng lo))))))] ++ (plG ng lo D) : va_W) ([] ++ ([((ad 0), .inr (9, [.ref (ad 1), .ref (ad 3), .ref (ad 8), .ref (ad 12), .ref (ad 13), .ref (ad 17), .ref (ad 18), .ref (ad 19), .ref (ad 20), .ref (ad 21), .ref (ad 25), .ref (ad 37), .int (nI ng), .int (nI nw)])), ((ad 18), .inl (G.2.2 5, 100, .inr (.inr (.inr (.inr (oA ng lo))))))] ++ (plG ng lo D))) := List.Perm.refl _
  refine k_i C h hp (r_runS C h hp (As := [.int a]) (rest := []) (h_isOwner l G a) (va_cwS 1 C.1.1.2.2.2.2 gX9_log_X9_isOwner rfl rfl rfl (by decide +kernel) ⟨Nat.le_of_ble_eq_true rfl, Nat.le_of_ble_eq_true rfl⟩) rfl hl.1 (Nat.le_of_ble_eq_true rfl) dX9_log_1 ⟨Nat.le_of_ble_eq_true rfl, Nat.le_of_ble_eq_true rfl⟩) (fun r_1 u_2 H locs hw_3 h => ?_)
  have h : gS G A s ([((ad 0), .inr (9, [.ref (ad 1), .ref (ad 3), .ref (ad 8), .ref (ad 12), .ref (ad 13), .ref (ad 17), .ref (ad 18), .ref (ad 19), .ref (ad 20), .ref (ad 21), .ref (ad 25), .ref (ad 37), .int (nI ng), .int (nI nw)])), ((ad 18), .inl (G.2.2 5, 100, .inr (.inr (.inr (.inr (oA ng lo))))))] ++ (plG ng lo D)) H locs := h
  refine W.widen (k := 0) (n := 0) (Nat.le_of_ble_eq_true rfl) (Nat.le_of_ble_eq_true rfl) ?_
  subst hw_3
  refine lv_if_eq (tgt := 44) hx hb dX9_log_4 (by decide) (fun c_4 => ?_) (fun c_4 => ?_)
  · refine lv_iconst (v := -1) hx hb dX9_log_44 (by decide) ?_
    exact r_iret C h hr hlk (Nat.zero_le _) (Nat.zero_le _) () (rfl) (rfl) dX9_log_45
  · refine lv_iload_n hx hb dX9_log_7 rfl (lv_at hl 2 rfl) ?_
    have hp : List.Perm ([((ad 0), .inr (9, [.ref (ad 1), .ref (ad 3), .ref (ad 8), .ref (ad 12), .ref (ad 13), .ref (ad 17), .ref (ad 18), .ref (ad 19), .ref (ad 20), .ref (ad 21), .ref (ad 25), .ref (ad 37), .int (nI ng), .int (nI nw)])), ((ad 18), .inl (G.2.2 5, 100, .inr (.inr (.inr (.inr (oA ng lo))))))] ++ (plG ng lo D) : va_W) ([] ++ ([((ad 0), .inr (9, [.ref (ad 1), .ref (ad 3), .ref (ad 8), .ref (ad 12), .ref (ad 13), .ref (ad 17), .ref (ad 18), .ref (ad 19), .ref (ad 20), .ref (ad 21), .ref (ad 25), .ref (ad 37), .int (nI ng), .int (nI nw)])), ((ad 18), .inl (G.2.2 5, 100, .inr (.inr (.inr (.inr (oA ng lo))))))] ++ (plG ng lo D))) := List.Perm.refl _
    refine k_i C h hp (r_runS C h hp (As := [.int b]) (rest := []) (h_isStick l G b) (va_cwS 1 C.1.1.2.2.2.2 gX9_log_X9_isStick rfl rfl rfl (by decide +kernel) ⟨Nat.le_of_ble_eq_true rfl, Nat.le_of_ble_eq_true rfl⟩) rfl hl.1 (Nat.le_of_ble_eq_true rfl) dX9_log_8 ⟨Nat.le_of_ble_eq_true rfl, Nat.le_of_ble_eq_true rfl⟩) (fun r_4 u_5 H locs hw_6 h => ?_)
    have h : gS G A s ([((ad 0), .inr (9, [.ref (ad 1), .ref (ad 3), .ref (ad 8), .ref (ad 12), .ref (ad 13), .ref (ad 17), .ref (ad 18), .ref (ad 19), .ref (ad 20), .ref (ad 21), .ref (ad 25), .ref (ad 37), .int (nI ng), .int (nI nw)])), ((ad 18), .inl (G.2.2 5, 100, .inr (.inr (.inr (.inr (oA ng lo))))))] ++ (plG ng lo D)) H locs := h
    refine W.widen (k := 0) (n := 0) (Nat.le_of_ble_eq_true rfl) (Nat.le_of_ble_eq_true rfl) ?_
    subst hw_6
    refine lv_if_eq (tgt := 44) hx hb dX9_log_11 (by decide) (fun c_11 => ?_) (fun c_11 => ?_)
    · refine lv_iconst (v := -1) hx hb dX9_log_44 (by decide) ?_
      exact r_iret C h hr hlk (Nat.zero_le _) (Nat.zero_le _) () (rfl) (rfl) dX9_log_45
    · refine lv_iload_n hx hb dX9_log_14 rfl (lv_at hl 3 rfl) ?_
      refine lv_iconst (v := 1) hx hb dX9_log_15 (by decide) ?_
      refine lv_bipush (v := 99) hx hb dX9_log_16 (by decide) ?_
      have hp : List.Perm ([((ad 0), .inr (9, [.ref (ad 1), .ref (ad 3), .ref (ad 8), .ref (ad 12), .ref (ad 13), .ref (ad 17), .ref (ad 18), .ref (ad 19), .ref (ad 20), .ref (ad 21), .ref (ad 25), .ref (ad 37), .int (nI ng), .int (nI nw)])), ((ad 18), .inl (G.2.2 5, 100, .inr (.inr (.inr (.inr (oA ng lo))))))] ++ (plG ng lo D) : va_W) ([] ++ ([((ad 0), .inr (9, [.ref (ad 1), .ref (ad 3), .ref (ad 8), .ref (ad 12), .ref (ad 13), .ref (ad 17), .ref (ad 18), .ref (ad 19), .ref (ad 20), .ref (ad 21), .ref (ad 25), .ref (ad 37), .int (nI ng), .int (nI nw)])), ((ad 18), .inl (G.2.2 5, 100, .inr (.inr (.inr (.inr (oA ng lo))))))] ++ (plG ng lo D))) := List.Perm.refl _
      refine k_i C h hp (r_runS C h hp (As := [.int c9, .int 1, .int 99]) (rest := []) (h_within l G c9 1 99) (va_cwS 3 C.1.1.2.2.2.2 gX9_log_X9_within rfl rfl rfl (by decide +kernel) ⟨Nat.le_of_ble_eq_true rfl, Nat.le_of_ble_eq_true rfl⟩) rfl hl.1 (Nat.le_of_ble_eq_true rfl) dX9_log_18 ⟨Nat.le_of_ble_eq_true rfl, Nat.le_of_ble_eq_true rfl⟩) (fun r_7 u_8 H locs hw_9 h => ?_)
      have h : gS G A s ([((ad 0), .inr (9, [.ref (ad 1), .ref (ad 3), .ref (ad 8), .ref (ad 12), .ref (ad 13), .ref (ad 17), .ref (ad 18), .ref (ad 19), .ref (ad 20), .ref (ad 21), .ref (ad 25), .ref (ad 37), .int (nI ng), .int (nI nw)])), ((ad 18), .inl (G.2.2 5, 100, .inr (.inr (.inr (.inr (oA ng lo))))))] ++ (plG ng lo D)) H locs := h
      refine W.widen (k := 0) (n := 0) (Nat.le_of_ble_eq_true rfl) (Nat.le_of_ble_eq_true rfl) ?_
      subst hw_9
      refine lv_if_eq (tgt := 44) hx hb dX9_log_21 (by decide) (fun c_21 => ?_) (fun c_21 => ?_)
      · refine lv_iconst (v := -1) hx hb dX9_log_44 (by decide) ?_
        exact r_iret C h hr hlk (Nat.zero_le _) (Nat.zero_le _) () (rfl) (rfl) dX9_log_45
      · refine lv_iload hx hb dX9_log_24 (lv_at hl 4 rfl) ?_
        refine lv_iconst (v := 1) hx hb dX9_log_26 (by decide) ?_
        refine lv_bipush (v := 60) hx hb dX9_log_27 (by decide) ?_
        have hp : List.Perm ([((ad 0), .inr (9, [.ref (ad 1), .ref (ad 3), .ref (ad 8), .ref (ad 12), .ref (ad 13), .ref (ad 17), .ref (ad 18), .ref (ad 19), .ref (ad 20), .ref (ad 21), .ref (ad 25), .ref (ad 37), .int (nI ng), .int (nI nw)])), ((ad 18), .inl (G.2.2 5, 100, .inr (.inr (.inr (.inr (oA ng lo))))))] ++ (plG ng lo D) : va_W) ([] ++ ([((ad 0), .inr (9, [.ref (ad 1), .ref (ad 3), .ref (ad 8), .ref (ad 12), .ref (ad 13), .ref (ad 17), .ref (ad 18), .ref (ad 19), .ref (ad 20), .ref (ad 21), .ref (ad 25), .ref (ad 37), .int (nI ng), .int (nI nw)])), ((ad 18), .inl (G.2.2 5, 100, .inr (.inr (.inr (.inr (oA ng lo))))))] ++ (plG ng lo D))) := List.Perm.refl _
        refine k_i C h hp (r_runS C h hp (As := [.int d, .int 1, .int 60]) (rest := []) (h_within l G d 1 60) (va_cwS 3 C.1.1.2.2.2.2 gX9_log_X9_within rfl rfl rfl (by decide +kernel) ⟨Nat.le_of_ble_eq_true rfl, Nat.le_of_ble_eq_true rfl⟩) rfl hl.1 (Nat.le_of_ble_eq_true rfl) dX9_log_29 ⟨Nat.le_of_ble_eq_true rfl, Nat.le_of_ble_eq_true rfl⟩) (fun r_10 u_11 H locs hw_12 h => ?_)
        have h : gS G A s ([((ad 0), .inr (9, [.ref (ad 1), .ref (ad 3), .ref (ad 8), .ref (ad 12), .ref (ad 13), .ref (ad 17), .ref (ad 18), .ref (ad 19), .ref (ad 20), .ref (ad 21), .ref (ad 25), .ref (ad 37), .int (nI ng), .int (nI nw)])), ((ad 18), .inl (G.2.2 5, 100, .inr (.inr (.inr (.inr (oA ng lo))))))] ++ (plG ng lo D)) H locs := h
        refine W.widen (k := 0) (n := 0) (Nat.le_of_ble_eq_true rfl) (Nat.le_of_ble_eq_true rfl) ?_
        subst hw_12
        refine lv_if_eq (tgt := 44) hx hb dX9_log_32 (by decide) (fun c_32 => ?_) (fun c_32 => ?_)
        · refine lv_iconst (v := -1) hx hb dX9_log_44 (by decide) ?_
          exact r_iret C h hr hlk (Nat.zero_le _) (Nat.zero_le _) () (rfl) (rfl) dX9_log_45
        · refine lv_aload_n hx hb dX9_log_35 rfl (lv_at hl 0 rfl) ?_
          refine r_get C h 0 rfl (Cn := RX9) (T := TX9) (N := 14) rfl hinX9 12 (by decide) (index := 78) (ref := "ScaleHouse") wd0 rfl (v := .int (nI ng)) rfl dX9_log_36 ?_
          refine lv_bipush (v := 100) hx hb dX9_log_39 (by decide) ?_
          refine lv_icmp_lt (tgt := 46) hx hb dX9_log_41 (by decide) (fun c_41 => ?_) (fun c_41 => ?_)
          · exact absurd hok (by unfold hLok; simp [c_4, c_11, c_21, c_32, (nI_ltI (b := 100) (by omega) (by decide)).mp c_41])
          · refine lv_iconst (v := -1) hx hb dX9_log_44 (by decide) ?_
            exact r_iret C h hr hlk (Nat.zero_le _) (Nat.zero_le _) () (rfl) (rfl) dX9_log_45

theorem wlog {a b c : Nat × va_E} {P : va_W} : List.Perm ([a, b, c] ++ P) ([a, b] ++ (P ++ [c])) := by
  refine List.Perm.append_left [a, b] ?_
  exact List.perm_append_comm (l₁ := [c]) (l₂ := P)

set_option maxHeartbeats 4000000 in
set_option maxRecDepth 100000 in
theorem h_log (l : Launch) (G : gG) (ad : Nat → Nat) (ng nw : Nat) (lo : Nat → Nat) (D : Nat → Nat → Int32) (a b c9 d : Int32) (hok : hLok ng a b c9 d = true) : cM l yX9_log wsX9_log 2 60 (1) (9) G [.ref (ad 0), .int a, .int b, .int c9, .int d] ([((ad 0), .inr (9, [.ref (ad 1), .ref (ad 3), .ref (ad 8), .ref (ad 12), .ref (ad 13), .ref (ad 17), .ref (ad 18), .ref (ad 19), .ref (ad 20), .ref (ad 21), .ref (ad 25), .ref (ad 37), .int (nI ng), .int (nI nw)])), ((ad 18), .inl (G.2.2 5, 100, .inr (.inr (.inr (.inr (oA ng lo))))))] ++ (plG ng lo D)) (qI G (S := Nat) (fun r _ => r = nI ng) (fun q9 => [((ad 0), .inr (9, [.ref (ad 1), .ref (ad 3), .ref (ad 8), .ref (ad 12), .ref (ad 13), .ref (ad 17), .ref (ad 18), .ref (ad 19), .ref (ad 20), .ref (ad 21), .ref (ad 25), .ref (ad 37), .int (nI (ng + 1)), .int (nI nw)])), ((ad 18), .inl (G.2.2 5, 100, .inr (.inr (.inr (.inr (oA (ng + 1) (va_up lo ng q9)))))))] ++ (plG (ng + 1) (va_up lo ng q9) (lgU D ng a b c9 d (nI nw))))) := by
  refine o_M (cc := cX9_log) (maxL := 5) (ret := (some .int)) (own := RX9) (by decide +kernel) rfl rfl (Nat.le_of_ble_eq_true rfl) ?_
  intro p e s m below meth c A ls H locs hA C h hr hlk hnm hl
  have hx := C.1.1.1
  have hb := C.1.1.2.1
  have hl : lv_has ls 5 [(0, .ref (ad 0)), (1, .int a), (2, .int b), (3, .int c9), (4, .int d)] := hl
  have wd0 : Cond.fieldLink RX9 78 "ScaleHouse" "logCount" "I" ∈ wsX9_log := by decide +kernel
  have hinX9 : ∀ w ∈ wsX90, w ∈ wsX9_log := fun _ h => List.mem_cons_of_mem _ (List.mem_append_left _ (List.mem_append_right _ h))
  have wd1 : Cond.fieldLink RX9 47 "ScaleHouse" "logs" "[LScaleHouse$Log;" ∈ wsX9_log := by decide +kernel
  have hinX3 : ∀ w ∈ wsX30, w ∈ wsX9_log := fun _ h => List.mem_cons_of_mem _ (List.mem_append_right _ h)
  have wd2 : Cond.classLink RX9 45 RX3 ∈ wsX9_log := by decide +kernel
  have wd3 : Cond.instantiable RX3 9 ∈ wsX9_log := by decide +kernel
  have wd4 : Cond.initialized RX3 ∈ wsX9_log := by decide +kernel
  have wd5 : Cond.fieldLink RX9 82 "ScaleHouse" "now" "I" ∈ wsX9_log := by decide +kernel
  have wd6 : Cond.methodLink RX9 153 yX3_init ∈ wsX9_log := by decide +kernel
  have wd7 : Cond.instanceMethod yX3_init ∈ wsX9_log := by decide +kernel
  have hk5 := hok
  unfold hLok at hk5
  simp only [Bool.and_eq_true, decide_eq_true_eq] at hk5
  refine lv_iload_n hx hb dX9_log_0 rfl (lv_at hl 1 rfl) ?_
  have hp : List.Perm ([((ad 0), .inr (9, [.ref (ad 1), .ref (ad 3), .ref (ad 8), .ref (ad 12), .ref (ad 13), .ref (ad 17), .ref (ad 18), .ref (ad 19), .ref (ad 20), .ref (ad 21), .ref (ad 25), .ref (ad 37), .int (nI ng), .int (nI nw)])), ((ad 18), .inl (G.2.2 5, 100, .inr (.inr (.inr (.inr (oA ng lo))))))] ++ (plG ng lo D) : va_W) ([] ++ ([((ad 0), .inr (9, [.ref (ad 1), .ref (ad 3), .ref (ad 8), .ref (ad 12), .ref (ad 13), .ref (ad 17), .ref (ad 18), .ref (ad 19), .ref (ad 20), .ref (ad 21), .ref (ad 25), .ref (ad 37), .int (nI ng), .int (nI nw)])), ((ad 18), .inl (G.2.2 5, 100, .inr (.inr (.inr (.inr (oA ng lo))))))] ++ (plG ng lo D))) := List.Perm.refl _
  refine k_i C h hp (r_runS C h hp (As := [.int a]) (rest := []) (h_isOwner l G a) (va_cwS 1 C.1.1.2.2.2.2 gX9_log_X9_isOwner rfl rfl rfl (by decide +kernel) ⟨Nat.le_of_ble_eq_true rfl, Nat.le_of_ble_eq_true rfl⟩) rfl hl.1 (Nat.le_of_ble_eq_true rfl) dX9_log_1 ⟨Nat.le_of_ble_eq_true rfl, Nat.le_of_ble_eq_true rfl⟩) (fun r_1 u_2 H locs hw_3 h => ?_)
  have h : gS G A s ([((ad 0), .inr (9, [.ref (ad 1), .ref (ad 3), .ref (ad 8), .ref (ad 12), .ref (ad 13), .ref (ad 17), .ref (ad 18), .ref (ad 19), .ref (ad 20), .ref (ad 21), .ref (ad 25), .ref (ad 37), .int (nI ng), .int (nI nw)])), ((ad 18), .inl (G.2.2 5, 100, .inr (.inr (.inr (.inr (oA ng lo))))))] ++ (plG ng lo D)) H locs := h
  refine W.widen (k := 0) (n := 0) (Nat.le_of_ble_eq_true rfl) (Nat.le_of_ble_eq_true rfl) ?_
  subst hw_3
  refine lv_if_eq (tgt := 44) hx hb dX9_log_4 (by decide) (fun c_4 => ?_) (fun c_4 => ?_)
  · exact absurd c_4 (hk5.1.1.1.1)
  · refine lv_iload_n hx hb dX9_log_7 rfl (lv_at hl 2 rfl) ?_
    have hp : List.Perm ([((ad 0), .inr (9, [.ref (ad 1), .ref (ad 3), .ref (ad 8), .ref (ad 12), .ref (ad 13), .ref (ad 17), .ref (ad 18), .ref (ad 19), .ref (ad 20), .ref (ad 21), .ref (ad 25), .ref (ad 37), .int (nI ng), .int (nI nw)])), ((ad 18), .inl (G.2.2 5, 100, .inr (.inr (.inr (.inr (oA ng lo))))))] ++ (plG ng lo D) : va_W) ([] ++ ([((ad 0), .inr (9, [.ref (ad 1), .ref (ad 3), .ref (ad 8), .ref (ad 12), .ref (ad 13), .ref (ad 17), .ref (ad 18), .ref (ad 19), .ref (ad 20), .ref (ad 21), .ref (ad 25), .ref (ad 37), .int (nI ng), .int (nI nw)])), ((ad 18), .inl (G.2.2 5, 100, .inr (.inr (.inr (.inr (oA ng lo))))))] ++ (plG ng lo D))) := List.Perm.refl _
    refine k_i C h hp (r_runS C h hp (As := [.int b]) (rest := []) (h_isStick l G b) (va_cwS 1 C.1.1.2.2.2.2 gX9_log_X9_isStick rfl rfl rfl (by decide +kernel) ⟨Nat.le_of_ble_eq_true rfl, Nat.le_of_ble_eq_true rfl⟩) rfl hl.1 (Nat.le_of_ble_eq_true rfl) dX9_log_8 ⟨Nat.le_of_ble_eq_true rfl, Nat.le_of_ble_eq_true rfl⟩) (fun r_4 u_5 H locs hw_6 h => ?_)
    have h : gS G A s ([((ad 0), .inr (9, [.ref (ad 1), .ref (ad 3), .ref (ad 8), .ref (ad 12), .ref (ad 13), .ref (ad 17), .ref (ad 18), .ref (ad 19), .ref (ad 20), .ref (ad 21), .ref (ad 25), .ref (ad 37), .int (nI ng), .int (nI nw)])), ((ad 18), .inl (G.2.2 5, 100, .inr (.inr (.inr (.inr (oA ng lo))))))] ++ (plG ng lo D)) H locs := h
    refine W.widen (k := 0) (n := 0) (Nat.le_of_ble_eq_true rfl) (Nat.le_of_ble_eq_true rfl) ?_
    subst hw_6
    refine lv_if_eq (tgt := 44) hx hb dX9_log_11 (by decide) (fun c_11 => ?_) (fun c_11 => ?_)
    · exact absurd c_11 (hk5.1.1.1.2)
    · refine lv_iload_n hx hb dX9_log_14 rfl (lv_at hl 3 rfl) ?_
      refine lv_iconst (v := 1) hx hb dX9_log_15 (by decide) ?_
      refine lv_bipush (v := 99) hx hb dX9_log_16 (by decide) ?_
      have hp : List.Perm ([((ad 0), .inr (9, [.ref (ad 1), .ref (ad 3), .ref (ad 8), .ref (ad 12), .ref (ad 13), .ref (ad 17), .ref (ad 18), .ref (ad 19), .ref (ad 20), .ref (ad 21), .ref (ad 25), .ref (ad 37), .int (nI ng), .int (nI nw)])), ((ad 18), .inl (G.2.2 5, 100, .inr (.inr (.inr (.inr (oA ng lo))))))] ++ (plG ng lo D) : va_W) ([] ++ ([((ad 0), .inr (9, [.ref (ad 1), .ref (ad 3), .ref (ad 8), .ref (ad 12), .ref (ad 13), .ref (ad 17), .ref (ad 18), .ref (ad 19), .ref (ad 20), .ref (ad 21), .ref (ad 25), .ref (ad 37), .int (nI ng), .int (nI nw)])), ((ad 18), .inl (G.2.2 5, 100, .inr (.inr (.inr (.inr (oA ng lo))))))] ++ (plG ng lo D))) := List.Perm.refl _
      refine k_i C h hp (r_runS C h hp (As := [.int c9, .int 1, .int 99]) (rest := []) (h_within l G c9 1 99) (va_cwS 3 C.1.1.2.2.2.2 gX9_log_X9_within rfl rfl rfl (by decide +kernel) ⟨Nat.le_of_ble_eq_true rfl, Nat.le_of_ble_eq_true rfl⟩) rfl hl.1 (Nat.le_of_ble_eq_true rfl) dX9_log_18 ⟨Nat.le_of_ble_eq_true rfl, Nat.le_of_ble_eq_true rfl⟩) (fun r_7 u_8 H locs hw_9 h => ?_)
      have h : gS G A s ([((ad 0), .inr (9, [.ref (ad 1), .ref (ad 3), .ref (ad 8), .ref (ad 12), .ref (ad 13), .ref (ad 17), .ref (ad 18), .ref (ad 19), .ref (ad 20), .ref (ad 21), .ref (ad 25), .ref (ad 37), .int (nI ng), .int (nI nw)])), ((ad 18), .inl (G.2.2 5, 100, .inr (.inr (.inr (.inr (oA ng lo))))))] ++ (plG ng lo D)) H locs := h
      refine W.widen (k := 0) (n := 0) (Nat.le_of_ble_eq_true rfl) (Nat.le_of_ble_eq_true rfl) ?_
      subst hw_9
      refine lv_if_eq (tgt := 44) hx hb dX9_log_21 (by decide) (fun c_21 => ?_) (fun c_21 => ?_)
      · exact absurd c_21 (hk5.1.1.2)
      · refine lv_iload hx hb dX9_log_24 (lv_at hl 4 rfl) ?_
        refine lv_iconst (v := 1) hx hb dX9_log_26 (by decide) ?_
        refine lv_bipush (v := 60) hx hb dX9_log_27 (by decide) ?_
        have hp : List.Perm ([((ad 0), .inr (9, [.ref (ad 1), .ref (ad 3), .ref (ad 8), .ref (ad 12), .ref (ad 13), .ref (ad 17), .ref (ad 18), .ref (ad 19), .ref (ad 20), .ref (ad 21), .ref (ad 25), .ref (ad 37), .int (nI ng), .int (nI nw)])), ((ad 18), .inl (G.2.2 5, 100, .inr (.inr (.inr (.inr (oA ng lo))))))] ++ (plG ng lo D) : va_W) ([] ++ ([((ad 0), .inr (9, [.ref (ad 1), .ref (ad 3), .ref (ad 8), .ref (ad 12), .ref (ad 13), .ref (ad 17), .ref (ad 18), .ref (ad 19), .ref (ad 20), .ref (ad 21), .ref (ad 25), .ref (ad 37), .int (nI ng), .int (nI nw)])), ((ad 18), .inl (G.2.2 5, 100, .inr (.inr (.inr (.inr (oA ng lo))))))] ++ (plG ng lo D))) := List.Perm.refl _
        refine k_i C h hp (r_runS C h hp (As := [.int d, .int 1, .int 60]) (rest := []) (h_within l G d 1 60) (va_cwS 3 C.1.1.2.2.2.2 gX9_log_X9_within rfl rfl rfl (by decide +kernel) ⟨Nat.le_of_ble_eq_true rfl, Nat.le_of_ble_eq_true rfl⟩) rfl hl.1 (Nat.le_of_ble_eq_true rfl) dX9_log_29 ⟨Nat.le_of_ble_eq_true rfl, Nat.le_of_ble_eq_true rfl⟩) (fun r_10 u_11 H locs hw_12 h => ?_)
        have h : gS G A s ([((ad 0), .inr (9, [.ref (ad 1), .ref (ad 3), .ref (ad 8), .ref (ad 12), .ref (ad 13), .ref (ad 17), .ref (ad 18), .ref (ad 19), .ref (ad 20), .ref (ad 21), .ref (ad 25), .ref (ad 37), .int (nI ng), .int (nI nw)])), ((ad 18), .inl (G.2.2 5, 100, .inr (.inr (.inr (.inr (oA ng lo))))))] ++ (plG ng lo D)) H locs := h
        refine W.widen (k := 0) (n := 0) (Nat.le_of_ble_eq_true rfl) (Nat.le_of_ble_eq_true rfl) ?_
        subst hw_12
        refine lv_if_eq (tgt := 44) hx hb dX9_log_32 (by decide) (fun c_32 => ?_) (fun c_32 => ?_)
        · exact absurd c_32 (hk5.1.2)
        · refine lv_aload_n hx hb dX9_log_35 rfl (lv_at hl 0 rfl) ?_
          refine r_get C h 0 rfl (Cn := RX9) (T := TX9) (N := 14) rfl hinX9 12 (by decide) (index := 78) (ref := "ScaleHouse") wd0 rfl (v := .int (nI ng)) rfl dX9_log_36 ?_
          refine lv_bipush (v := 100) hx hb dX9_log_39 (by decide) ?_
          refine lv_icmp_lt (tgt := 46) hx hb dX9_log_41 (by decide) (fun c_41 => ?_) (fun c_41 => ?_)
          · refine lv_aload_n hx hb dX9_log_46 rfl (lv_at hl 0 rfl) ?_
            refine r_get C h 0 rfl (Cn := RX9) (T := TX9) (N := 14) rfl hinX9 6 (by decide) (index := 47) (ref := "ScaleHouse") wd1 rfl (v := .ref (ad 18)) rfl dX9_log_47 ?_
            refine lv_aload_n hx hb dX9_log_50 rfl (lv_at hl 0 rfl) ?_
            refine r_get C h 0 rfl (Cn := RX9) (T := TX9) (N := 14) rfl hinX9 12 (by decide) (index := 78) (ref := "ScaleHouse") wd0 rfl (v := .int (nI ng)) rfl dX9_log_51 ?_
            refine r_new C h (Cn := RX3) (T := TX3) (N := 9) (ci := 3) (index := 45) hinX3 tyX3 tyX3_ok wd2 wd3 wd4 rfl (fs := [.int 0, .int 0, .int 0, .int 0, .int 0, .int 0, .int 0, .int 0, .int 0]) (by decide) (Nat.le_of_ble_eq_true rfl) (Nat.le_of_ble_eq_true rfl) dX9_log_54 (fun q9 H h => ?_)
            refine W.widen (k := 1) (n := 9) (Nat.le_of_ble_eq_true rfl) (Nat.le_of_ble_eq_true rfl) ?_
            have h := gS.perm h pm_push
            have h : gS G A s ([((ad 0), .inr (9, [.ref (ad 1), .ref (ad 3), .ref (ad 8), .ref (ad 12), .ref (ad 13), .ref (ad 17), .ref (ad 18), .ref (ad 19), .ref (ad 20), .ref (ad 21), .ref (ad 25), .ref (ad 37), .int (nI ng), .int (nI nw)])), ((ad 18), .inl (G.2.2 5, 100, .inr (.inr (.inr (.inr (oA ng lo)))))), (q9, .inr (3, [.int 0, .int 0, .int 0, .int 0, .int 0, .int 0, .int 0, .int 0, .int 0]))] ++ (plG ng lo D)) H locs := h
            refine lv_dup hx hb dX9_log_57 rfl ?_
            refine lv_iload_n hx hb dX9_log_58 rfl (lv_at hl 1 rfl) ?_
            refine lv_iload_n hx hb dX9_log_59 rfl (lv_at hl 2 rfl) ?_
            refine lv_iload_n hx hb dX9_log_60 rfl (lv_at hl 3 rfl) ?_
            refine lv_iload hx hb dX9_log_61 (lv_at hl 4 rfl) ?_
            refine lv_aload_n hx hb dX9_log_63 rfl (lv_at hl 0 rfl) ?_
            refine r_get C h 0 rfl (Cn := RX9) (T := TX9) (N := 14) rfl hinX9 13 (by decide) (index := 82) (ref := "ScaleHouse") wd5 rfl (v := .int (nI nw)) rfl dX9_log_64 ?_
            have hp : List.Perm ([((ad 0), .inr (9, [.ref (ad 1), .ref (ad 3), .ref (ad 8), .ref (ad 12), .ref (ad 13), .ref (ad 17), .ref (ad 18), .ref (ad 19), .ref (ad 20), .ref (ad 21), .ref (ad 25), .ref (ad 37), .int (nI ng), .int (nI nw)])), ((ad 18), .inl (G.2.2 5, 100, .inr (.inr (.inr (.inr (oA ng lo)))))), (q9, .inr (3, [.int 0, .int 0, .int 0, .int 0, .int 0, .int 0, .int 0, .int 0, .int 0]))] ++ (plG ng lo D) : va_W) ([(q9, .inr (3, [.int 0, .int 0, .int 0, .int 0, .int 0, .int 0, .int 0, .int 0, .int 0]))] ++ ([((ad 0), .inr (9, [.ref (ad 1), .ref (ad 3), .ref (ad 8), .ref (ad 12), .ref (ad 13), .ref (ad 17), .ref (ad 18), .ref (ad 19), .ref (ad 20), .ref (ad 21), .ref (ad 25), .ref (ad 37), .int (nI ng), .int (nI nw)])), ((ad 18), .inl (G.2.2 5, 100, .inr (.inr (.inr (.inr (oA ng lo))))))] ++ (plG ng lo D))) := pmB (pm 3 rfl [2, 0, 1] (by decide +kernel) rfl)
            refine k_v C h hp (r_runI C h hp (As := [.int a, .int b, .int c9, .int d, .int (nI nw)]) (rest := [.ref q9, .int (nI ng), .ref (ad 18)]) (o_init l G q9 a b c9 d (nI nw)) (cwI 5 C.1.1.2.2.2.2 gX9_log_X3_init rfl rfl rfl (C.1.1.2.2.2.2 _ wd4) (C.1.1.2.2.2.2 _ wd6) (C.1.1.2.2.2.2 _ wd7) rfl (by decide +kernel) ⟨Nat.le_of_ble_eq_true rfl, Nat.le_of_ble_eq_true rfl⟩) rfl hl.1 (Nat.le_of_ble_eq_true rfl) dX9_log_67 ⟨Nat.le_of_ble_eq_true rfl, Nat.le_of_ble_eq_true rfl⟩) (fun u_14 H locs hw_15 h => ?_)
            have h : gS G A s ([(q9, .inr (3, [.int a, .int b, .int c9, .int d, .int (nI nw), .int 0, .int 0, .int 0, .int 0]))] ++ ([((ad 0), .inr (9, [.ref (ad 1), .ref (ad 3), .ref (ad 8), .ref (ad 12), .ref (ad 13), .ref (ad 17), .ref (ad 18), .ref (ad 19), .ref (ad 20), .ref (ad 21), .ref (ad 25), .ref (ad 37), .int (nI ng), .int (nI nw)])), ((ad 18), .inl (G.2.2 5, 100, .inr (.inr (.inr (.inr (oA ng lo))))))] ++ (plG ng lo D))) H locs := h
            rw [← List.append_assoc] at h
            have h := gS.perm h (pmA (pm 3 rfl [1, 2, 0] (by decide +kernel) rfl : List.Perm ([(q9, .inr (3, [.int a, .int b, .int c9, .int d, .int (nI nw), .int 0, .int 0, .int 0, .int 0]))] ++ [((ad 0), .inr (9, [.ref (ad 1), .ref (ad 3), .ref (ad 8), .ref (ad 12), .ref (ad 13), .ref (ad 17), .ref (ad 18), .ref (ad 19), .ref (ad 20), .ref (ad 21), .ref (ad 25), .ref (ad 37), .int (nI ng), .int (nI nw)])), ((ad 18), .inl (G.2.2 5, 100, .inr (.inr (.inr (.inr (oA ng lo))))))] : va_W) ([((ad 0), .inr (9, [.ref (ad 1), .ref (ad 3), .ref (ad 8), .ref (ad 12), .ref (ad 13), .ref (ad 17), .ref (ad 18), .ref (ad 19), .ref (ad 20), .ref (ad 21), .ref (ad 25), .ref (ad 37), .int (nI ng), .int (nI nw)])), ((ad 18), .inl (G.2.2 5, 100, .inr (.inr (.inr (.inr (oA ng lo)))))), (q9, .inr (3, [.int a, .int b, .int c9, .int d, .int (nI nw), .int 0, .int 0, .int 0, .int 0]))])))
            have h : gS G A s ([((ad 0), .inr (9, [.ref (ad 1), .ref (ad 3), .ref (ad 8), .ref (ad 12), .ref (ad 13), .ref (ad 17), .ref (ad 18), .ref (ad 19), .ref (ad 20), .ref (ad 21), .ref (ad 25), .ref (ad 37), .int (nI ng), .int (nI nw)])), ((ad 18), .inl (G.2.2 5, 100, .inr (.inr (.inr (.inr (oA ng lo)))))), (q9, .inr (3, [.int a, .int b, .int c9, .int d, .int (nI nw), .int 0, .int 0, .int 0, .int 0]))] ++ (plG ng lo D)) H locs := h
            refine W.widen (k := 1) (n := 9) (Nat.le_of_ble_eq_true rfl) (Nat.le_of_ble_eq_true rfl) ?_
            refine r_aast C h 1 5 2 3 rfl rfl rfl rfl (i := (nI ng)) (vp_in_nI hk5.2 (by decide)) dX9_log_70 (fun H locs h => ?_)
            have h : gS G A s ([((ad 0), .inr (9, [.ref (ad 1), .ref (ad 3), .ref (ad 8), .ref (ad 12), .ref (ad 13), .ref (ad 17), .ref (ad 18), .ref (ad 19), .ref (ad 20), .ref (ad 21), .ref (ad 25), .ref (ad 37), .int (nI ng), .int (nI nw)])), ((ad 18), .inl (G.2.2 5, 100, .inr (.inr (.inr (.inr (va_up (oA ng lo) (nI ng).toNatClampNeg (some q9))))))), (q9, .inr (3, [.int a, .int b, .int c9, .int d, .int (nI nw), .int 0, .int 0, .int 0, .int 0]))] ++ (plG ng lo D)) H locs := h
            rw [show (va_up (oA ng lo) (nI ng).toNatClampNeg (some q9)) = (oA (ng + 1) (va_up lo ng q9)) from oA_up lo q9 (by omega)] at h
            have h : gS G A s ([((ad 0), .inr (9, [.ref (ad 1), .ref (ad 3), .ref (ad 8), .ref (ad 12), .ref (ad 13), .ref (ad 17), .ref (ad 18), .ref (ad 19), .ref (ad 20), .ref (ad 21), .ref (ad 25), .ref (ad 37), .int (nI ng), .int (nI nw)])), ((ad 18), .inl (G.2.2 5, 100, .inr (.inr (.inr (.inr (oA (ng + 1) (va_up lo ng q9))))))), (q9, .inr (3, [.int a, .int b, .int c9, .int d, .int (nI nw), .int 0, .int 0, .int 0, .int 0]))] ++ (plG ng lo D)) H locs := h
            refine lv_aload_n hx hb dX9_log_71 rfl (lv_at hl 0 rfl) ?_
            refine lv_dup hx hb dX9_log_72 rfl ?_
            refine r_get C h 0 rfl (Cn := RX9) (T := TX9) (N := 14) rfl hinX9 12 (by decide) (index := 78) (ref := "ScaleHouse") wd0 rfl (v := .int (nI ng)) rfl dX9_log_73 ?_
            refine lv_dup_x1 hx hb dX9_log_76 rfl rfl ?_
            refine lv_iconst (v := 1) hx hb dX9_log_77 (by decide) ?_
            refine lv_iadd hx hb dX9_log_78 ?_
            refine lv_cgi (y := (nI (ng + 1))) (nI_1 ng) ?_
            refine r_put C h 0 rfl (Cn := RX9) (T := TX9) (N := 14) rfl hinX9 tyX9 tyX9_ok nmX9 12 (by decide) (index := 78) (ref := "ScaleHouse") wd0 rfl rfl (v := .int (nI (ng + 1))) rfl rfl (show 12 < 14 by decide) dX9_log_79 (fun H locs h => ?_)
            have h : gS G A s ([((ad 0), .inr (9, [.ref (ad 1), .ref (ad 3), .ref (ad 8), .ref (ad 12), .ref (ad 13), .ref (ad 17), .ref (ad 18), .ref (ad 19), .ref (ad 20), .ref (ad 21), .ref (ad 25), .ref (ad 37), .int (nI (ng + 1)), .int (nI nw)])), ((ad 18), .inl (G.2.2 5, 100, .inr (.inr (.inr (.inr (oA (ng + 1) (va_up lo ng q9))))))), (q9, .inr (3, [.int a, .int b, .int c9, .int d, .int (nI nw), .int 0, .int 0, .int 0, .int 0]))] ++ (plG ng lo D)) H locs := h
            have h : gS G A s ([((ad 0), .inr (9, [.ref (ad 1), .ref (ad 3), .ref (ad 8), .ref (ad 12), .ref (ad 13), .ref (ad 17), .ref (ad 18), .ref (ad 19), .ref (ad 20), .ref (ad 21), .ref (ad 25), .ref (ad 37), .int (nI (ng + 1)), .int (nI nw)])), ((ad 18), .inl (G.2.2 5, 100, .inr (.inr (.inr (.inr (oA (ng + 1) (va_up lo ng q9)))))))] ++ (plG (ng + 1) (va_up lo ng q9) (lgU D ng a b c9 d (nI nw)))) H locs := by
              have h9 := gS.perm h (wlog (a := ((ad 0), .inr (9, [.ref (ad 1), .ref (ad 3), .ref (ad 8), .ref (ad 12), .ref (ad 13), .ref (ad 17), .ref (ad 18), .ref (ad 19), .ref (ad 20), .ref (ad 21), .ref (ad 25), .ref (ad 37), .int (nI (ng + 1)), .int (nI nw)]))) (b := ((ad 18), .inl (G.2.2 5, 100, .inr (.inr (.inr (.inr (oA (ng + 1) (va_up lo ng q9)))))))) (c := (q9, .inr (3, [.int a, .int b, .int c9, .int d, .int (nI nw), .int 0, .int 0, .int 0, .int 0]))) (P := plG ng lo D))
              rw [plG_s]
              exact h9
            exact r_iret C h hr hlk (by omega) (by omega) q9 (rfl) (rfl) dX9_log_82
          · exact absurd (nI_lt (b := 100) hk5.2 (by decide)) c_41

def hDok (ng : Nat) (x y z : Int32) : Bool := decide (¬ mIn x 0 (nI ng - 1) = 0) && decide (¬ mIn y 0 99 = 0) && decide (¬ mIn z 0 90 = 0)
def hCok (ng : Nat) (x y : Int32) : Bool := decide (¬ mIn x 0 (nI ng - 1) = 0) && decide (¬ mIn y 1 99 = 0)
theorem mIn_kn {k n : Nat} (h : k < n) (hn : n < 2 ^ 31) : ¬ mIn (nI k) 0 (nI n - 1) = 0 := by
  rw [mIn_iff, Decidable.not_not]
  refine ⟨nI_le (a := 0) (Nat.zero_le _) (by omega), ?_⟩
  rw [show (1 : Int32) = nI 1 from rfl, pk_sub (by omega)]
  exact nI_le (by omega) (by omega)

set_option maxHeartbeats 4000000 in
set_option maxRecDepth 100000 in
theorem h_defN (l : Launch) (G : gG) (ad : Nat → Nat) (ng nw : Nat) (lo : Nat → Nat) (D : Nat → Nat → Int32) (x y z : Int32) (hok : hDok ng x y z = false) : cM l yX9_defects wsX9_defects 2 60 (0) (0) G [.ref (ad 0), .int x, .int y, .int z] ([((ad 0), .inr (9, [.ref (ad 1), .ref (ad 3), .ref (ad 8), .ref (ad 12), .ref (ad 13), .ref (ad 17), .ref (ad 18), .ref (ad 19), .ref (ad 20), .ref (ad 21), .ref (ad 25), .ref (ad 37), .int (nI ng), .int (nI nw)])), ((ad 18), .inl (G.2.2 5, 100, .inr (.inr (.inr (.inr (oA ng lo))))))] ++ (plG ng lo D)) (qI G (S := Unit) (fun r _ => r = 0) (fun _ => [((ad 0), .inr (9, [.ref (ad 1), .ref (ad 3), .ref (ad 8), .ref (ad 12), .ref (ad 13), .ref (ad 17), .ref (ad 18), .ref (ad 19), .ref (ad 20), .ref (ad 21), .ref (ad 25), .ref (ad 37), .int (nI ng), .int (nI nw)])), ((ad 18), .inl (G.2.2 5, 100, .inr (.inr (.inr (.inr (oA ng lo))))))] ++ (plG ng lo D))) := by
  refine o_M (cc := cX9_defects) (maxL := 4) (ret := (some .boolean)) (own := RX9) (by decide +kernel) rfl rfl (Nat.le_of_ble_eq_true rfl) ?_
  intro p e s m below meth c A ls H locs hA C h hr hlk hnm hl
  have hx := C.1.1.1
  have hb := C.1.1.2.1
  have hl : lv_has ls 4 [(0, .ref (ad 0)), (1, .int x), (2, .int y), (3, .int z)] := hl
  refine lv_aload_n hx hb dX9_defects_0 rfl (lv_at hl 0 rfl) ?_
  refine lv_iload_n hx hb dX9_defects_1 rfl (lv_at hl 1 rfl) ?_
  have hp : List.Perm ([((ad 0), .inr (9, [.ref (ad 1), .ref (ad 3), .ref (ad 8), .ref (ad 12), .ref (ad 13), .ref (ad 17), .ref (ad 18), .ref (ad 19), .ref (ad 20), .ref (ad 21), .ref (ad 25), .ref (ad 37), .int (nI ng), .int (nI nw)])), ((ad 18), .inl (G.2.2 5, 100, .inr (.inr (.inr (.inr (oA ng lo))))))] ++ (plG ng lo D) : va_W) ([((ad 0), .inr (9, [.ref (ad 1), .ref (ad 3), .ref (ad 8), .ref (ad 12), .ref (ad 13), .ref (ad 17), .ref (ad 18), .ref (ad 19), .ref (ad 20), .ref (ad 21), .ref (ad 25), .ref (ad 37), .int (nI ng), .int (nI nw)]))] ++ ([((ad 18), .inl (G.2.2 5, 100, .inr (.inr (.inr (.inr (oA ng lo))))))] ++ (plG ng lo D))) := pmB (pm 2 rfl [0, 1] (by decide +kernel) rfl)
  refine k_i C h hp (r_runV C h hp 0 rfl rfl (As := [.int x]) (rest := []) (h_isLog l G ad ng nw x) (cwV 1 C.1.1.2.2.2.2 gX9_defects_X9_isLog rfl rfl rfl (by decide +kernel) ⟨Nat.le_of_ble_eq_true rfl, Nat.le_of_ble_eq_true rfl⟩) rfl hl.1 (Nat.le_of_ble_eq_true rfl) dX9_defects_2 ⟨Nat.le_of_ble_eq_true rfl, Nat.le_of_ble_eq_true rfl⟩) (fun r_1 u_2 H locs hw_3 h => ?_)
  have h : gS G A s ([((ad 0), .inr (9, [.ref (ad 1), .ref (ad 3), .ref (ad 8), .ref (ad 12), .ref (ad 13), .ref (ad 17), .ref (ad 18), .ref (ad 19), .ref (ad 20), .ref (ad 21), .ref (ad 25), .ref (ad 37), .int (nI ng), .int (nI nw)]))] ++ ([((ad 18), .inl (G.2.2 5, 100, .inr (.inr (.inr (.inr (oA ng lo))))))] ++ (plG ng lo D))) H locs := h
  rw [← List.append_assoc] at h
  have h := gS.perm h (pmA (pm 2 rfl [0, 1] (by decide +kernel) rfl : List.Perm ([((ad 0), .inr (9, [.ref (ad 1), .ref (ad 3), .ref (ad 8), .ref (ad 12), .ref (ad 13), .ref (ad 17), .ref (ad 18), .ref (ad 19), .ref (ad 20), .ref (ad 21), .ref (ad 25), .ref (ad 37), .int (nI ng), .int (nI nw)]))] ++ [((ad 18), .inl (G.2.2 5, 100, .inr (.inr (.inr (.inr (oA ng lo))))))] : va_W) ([((ad 0), .inr (9, [.ref (ad 1), .ref (ad 3), .ref (ad 8), .ref (ad 12), .ref (ad 13), .ref (ad 17), .ref (ad 18), .ref (ad 19), .ref (ad 20), .ref (ad 21), .ref (ad 25), .ref (ad 37), .int (nI ng), .int (nI nw)])), ((ad 18), .inl (G.2.2 5, 100, .inr (.inr (.inr (.inr (oA ng lo))))))])))
  have h : gS G A s ([((ad 0), .inr (9, [.ref (ad 1), .ref (ad 3), .ref (ad 8), .ref (ad 12), .ref (ad 13), .ref (ad 17), .ref (ad 18), .ref (ad 19), .ref (ad 20), .ref (ad 21), .ref (ad 25), .ref (ad 37), .int (nI ng), .int (nI nw)])), ((ad 18), .inl (G.2.2 5, 100, .inr (.inr (.inr (.inr (oA ng lo))))))] ++ (plG ng lo D)) H locs := h
  refine W.widen (k := 0) (n := 0) (Nat.le_of_ble_eq_true rfl) (Nat.le_of_ble_eq_true rfl) ?_
  subst hw_3
  refine lv_if_eq (tgt := 28) hx hb dX9_defects_5 (by decide) (fun c_5 => ?_) (fun c_5 => ?_)
  · refine lv_iconst (v := 0) hx hb dX9_defects_28 (by decide) ?_
    exact r_zret C h hr hlk (Nat.zero_le _) (Nat.zero_le _) (Or.inl rfl) () (rfl) (rfl) dX9_defects_29
  · refine lv_iload_n hx hb dX9_defects_8 rfl (lv_at hl 2 rfl) ?_
    refine lv_iconst (v := 0) hx hb dX9_defects_9 (by decide) ?_
    refine lv_bipush (v := 99) hx hb dX9_defects_10 (by decide) ?_
    have hp : List.Perm ([((ad 0), .inr (9, [.ref (ad 1), .ref (ad 3), .ref (ad 8), .ref (ad 12), .ref (ad 13), .ref (ad 17), .ref (ad 18), .ref (ad 19), .ref (ad 20), .ref (ad 21), .ref (ad 25), .ref (ad 37), .int (nI ng), .int (nI nw)])), ((ad 18), .inl (G.2.2 5, 100, .inr (.inr (.inr (.inr (oA ng lo))))))] ++ (plG ng lo D) : va_W) ([] ++ ([((ad 0), .inr (9, [.ref (ad 1), .ref (ad 3), .ref (ad 8), .ref (ad 12), .ref (ad 13), .ref (ad 17), .ref (ad 18), .ref (ad 19), .ref (ad 20), .ref (ad 21), .ref (ad 25), .ref (ad 37), .int (nI ng), .int (nI nw)])), ((ad 18), .inl (G.2.2 5, 100, .inr (.inr (.inr (.inr (oA ng lo))))))] ++ (plG ng lo D))) := List.Perm.refl _
    refine k_i C h hp (r_runS C h hp (As := [.int y, .int 0, .int 99]) (rest := []) (h_within l G y 0 99) (va_cwS 3 C.1.1.2.2.2.2 gX9_defects_X9_within rfl rfl rfl (by decide +kernel) ⟨Nat.le_of_ble_eq_true rfl, Nat.le_of_ble_eq_true rfl⟩) rfl hl.1 (Nat.le_of_ble_eq_true rfl) dX9_defects_12 ⟨Nat.le_of_ble_eq_true rfl, Nat.le_of_ble_eq_true rfl⟩) (fun r_4 u_5 H locs hw_6 h => ?_)
    have h : gS G A s ([((ad 0), .inr (9, [.ref (ad 1), .ref (ad 3), .ref (ad 8), .ref (ad 12), .ref (ad 13), .ref (ad 17), .ref (ad 18), .ref (ad 19), .ref (ad 20), .ref (ad 21), .ref (ad 25), .ref (ad 37), .int (nI ng), .int (nI nw)])), ((ad 18), .inl (G.2.2 5, 100, .inr (.inr (.inr (.inr (oA ng lo))))))] ++ (plG ng lo D)) H locs := h
    refine W.widen (k := 0) (n := 0) (Nat.le_of_ble_eq_true rfl) (Nat.le_of_ble_eq_true rfl) ?_
    subst hw_6
    refine lv_if_eq (tgt := 28) hx hb dX9_defects_15 (by decide) (fun c_15 => ?_) (fun c_15 => ?_)
    · refine lv_iconst (v := 0) hx hb dX9_defects_28 (by decide) ?_
      exact r_zret C h hr hlk (Nat.zero_le _) (Nat.zero_le _) (Or.inl rfl) () (rfl) (rfl) dX9_defects_29
    · refine lv_iload_n hx hb dX9_defects_18 rfl (lv_at hl 3 rfl) ?_
      refine lv_iconst (v := 0) hx hb dX9_defects_19 (by decide) ?_
      refine lv_bipush (v := 90) hx hb dX9_defects_20 (by decide) ?_
      have hp : List.Perm ([((ad 0), .inr (9, [.ref (ad 1), .ref (ad 3), .ref (ad 8), .ref (ad 12), .ref (ad 13), .ref (ad 17), .ref (ad 18), .ref (ad 19), .ref (ad 20), .ref (ad 21), .ref (ad 25), .ref (ad 37), .int (nI ng), .int (nI nw)])), ((ad 18), .inl (G.2.2 5, 100, .inr (.inr (.inr (.inr (oA ng lo))))))] ++ (plG ng lo D) : va_W) ([] ++ ([((ad 0), .inr (9, [.ref (ad 1), .ref (ad 3), .ref (ad 8), .ref (ad 12), .ref (ad 13), .ref (ad 17), .ref (ad 18), .ref (ad 19), .ref (ad 20), .ref (ad 21), .ref (ad 25), .ref (ad 37), .int (nI ng), .int (nI nw)])), ((ad 18), .inl (G.2.2 5, 100, .inr (.inr (.inr (.inr (oA ng lo))))))] ++ (plG ng lo D))) := List.Perm.refl _
      refine k_i C h hp (r_runS C h hp (As := [.int z, .int 0, .int 90]) (rest := []) (h_within l G z 0 90) (va_cwS 3 C.1.1.2.2.2.2 gX9_defects_X9_within rfl rfl rfl (by decide +kernel) ⟨Nat.le_of_ble_eq_true rfl, Nat.le_of_ble_eq_true rfl⟩) rfl hl.1 (Nat.le_of_ble_eq_true rfl) dX9_defects_22 ⟨Nat.le_of_ble_eq_true rfl, Nat.le_of_ble_eq_true rfl⟩) (fun r_7 u_8 H locs hw_9 h => ?_)
      have h : gS G A s ([((ad 0), .inr (9, [.ref (ad 1), .ref (ad 3), .ref (ad 8), .ref (ad 12), .ref (ad 13), .ref (ad 17), .ref (ad 18), .ref (ad 19), .ref (ad 20), .ref (ad 21), .ref (ad 25), .ref (ad 37), .int (nI ng), .int (nI nw)])), ((ad 18), .inl (G.2.2 5, 100, .inr (.inr (.inr (.inr (oA ng lo))))))] ++ (plG ng lo D)) H locs := h
      refine W.widen (k := 0) (n := 0) (Nat.le_of_ble_eq_true rfl) (Nat.le_of_ble_eq_true rfl) ?_
      subst hw_9
      refine lv_if_ne (tgt := 30) hx hb dX9_defects_25 (by decide) (fun c_25 => ?_) (fun c_25 => ?_)
      · exact absurd hok (by unfold hDok; simp [c_5, c_15, c_25])
      · refine lv_iconst (v := 0) hx hb dX9_defects_28 (by decide) ?_
        exact r_zret C h hr hlk (Nat.zero_le _) (Nat.zero_le _) (Or.inl rfl) () (rfl) (rfl) dX9_defects_29

set_option maxHeartbeats 4000000 in
set_option maxRecDepth 100000 in
theorem h_def (l : Launch) (G : gG) (ad : Nat → Nat) (ng nw : Nat) (lo : Nat → Nat) (D : Nat → Nat → Int32) (k : Nat) (y z : Int32) (hk : k < ng) (hng : ng ≤ 100) (hy : ¬ mIn y 0 99 = 0) (hz : ¬ mIn z 0 90 = 0) : cM l yX9_defects wsX9_defects 2 60 (0) (0) G [.ref (ad 0), .int (nI k), .int y, .int z] ([((ad 0), .inr (9, [.ref (ad 1), .ref (ad 3), .ref (ad 8), .ref (ad 12), .ref (ad 13), .ref (ad 17), .ref (ad 18), .ref (ad 19), .ref (ad 20), .ref (ad 21), .ref (ad 25), .ref (ad 37), .int (nI ng), .int (nI nw)])), ((ad 18), .inl (G.2.2 5, 100, .inr (.inr (.inr (.inr (oA ng lo))))))] ++ (plG ng lo D)) (qI G (S := Unit) (fun r _ => r = 1) (fun _ => [((ad 0), .inr (9, [.ref (ad 1), .ref (ad 3), .ref (ad 8), .ref (ad 12), .ref (ad 13), .ref (ad 17), .ref (ad 18), .ref (ad 19), .ref (ad 20), .ref (ad 21), .ref (ad 25), .ref (ad 37), .int (nI ng), .int (nI nw)])), ((ad 18), .inl (G.2.2 5, 100, .inr (.inr (.inr (.inr (oA ng lo))))))] ++ (plG ng lo (va_up (va_up D 5 (upd (D 5) k y)) 6 (upd ((va_up D 5 (upd (D 5) k y)) 6) k z))))) := by
  refine o_M (cc := cX9_defects) (maxL := 4) (ret := (some .boolean)) (own := RX9) (by decide +kernel) rfl rfl (Nat.le_of_ble_eq_true rfl) ?_
  intro p e s m below meth c A ls H locs hA C h hr hlk hnm hl
  have hx := C.1.1.1
  have hb := C.1.1.2.1
  have hl : lv_has ls 4 [(0, .ref (ad 0)), (1, .int (nI k)), (2, .int y), (3, .int z)] := hl
  have wd0 : Cond.fieldLink RX9 47 "ScaleHouse" "logs" "[LScaleHouse$Log;" ∈ wsX9_defects := by decide +kernel
  have hinX9 : ∀ w ∈ wsX90, w ∈ wsX9_defects := fun _ h => List.mem_cons_of_mem _ (List.mem_append_left _ (List.mem_append_right _ h))
  have wd1 : Cond.fieldLinkNest RX9 159 "ScaleHouse$Log" "rot" "I" "ScaleHouse" ∈ nW := by decide +kernel
  have hinX3 : ∀ w ∈ wsX30, w ∈ wsX9_defects := fun _ h => List.mem_cons_of_mem _ (List.mem_append_right _ h)
  have wd2 : Cond.fieldLinkNest RX9 162 "ScaleHouse$Log" "bend" "I" "ScaleHouse" ∈ nW := by decide +kernel
  refine lv_aload_n hx hb dX9_defects_0 rfl (lv_at hl 0 rfl) ?_
  refine lv_iload_n hx hb dX9_defects_1 rfl (lv_at hl 1 rfl) ?_
  have hp : List.Perm ([((ad 0), .inr (9, [.ref (ad 1), .ref (ad 3), .ref (ad 8), .ref (ad 12), .ref (ad 13), .ref (ad 17), .ref (ad 18), .ref (ad 19), .ref (ad 20), .ref (ad 21), .ref (ad 25), .ref (ad 37), .int (nI ng), .int (nI nw)])), ((ad 18), .inl (G.2.2 5, 100, .inr (.inr (.inr (.inr (oA ng lo))))))] ++ (plG ng lo D) : va_W) ([((ad 0), .inr (9, [.ref (ad 1), .ref (ad 3), .ref (ad 8), .ref (ad 12), .ref (ad 13), .ref (ad 17), .ref (ad 18), .ref (ad 19), .ref (ad 20), .ref (ad 21), .ref (ad 25), .ref (ad 37), .int (nI ng), .int (nI nw)]))] ++ ([((ad 18), .inl (G.2.2 5, 100, .inr (.inr (.inr (.inr (oA ng lo))))))] ++ (plG ng lo D))) := pmB (pm 2 rfl [0, 1] (by decide +kernel) rfl)
  refine k_i C h hp (r_runV C h hp 0 rfl rfl (As := [.int (nI k)]) (rest := []) (h_isLog l G ad ng nw (nI k)) (cwV 1 C.1.1.2.2.2.2 gX9_defects_X9_isLog rfl rfl rfl (by decide +kernel) ⟨Nat.le_of_ble_eq_true rfl, Nat.le_of_ble_eq_true rfl⟩) rfl hl.1 (Nat.le_of_ble_eq_true rfl) dX9_defects_2 ⟨Nat.le_of_ble_eq_true rfl, Nat.le_of_ble_eq_true rfl⟩) (fun r_1 u_2 H locs hw_3 h => ?_)
  have h : gS G A s ([((ad 0), .inr (9, [.ref (ad 1), .ref (ad 3), .ref (ad 8), .ref (ad 12), .ref (ad 13), .ref (ad 17), .ref (ad 18), .ref (ad 19), .ref (ad 20), .ref (ad 21), .ref (ad 25), .ref (ad 37), .int (nI ng), .int (nI nw)]))] ++ ([((ad 18), .inl (G.2.2 5, 100, .inr (.inr (.inr (.inr (oA ng lo))))))] ++ (plG ng lo D))) H locs := h
  rw [← List.append_assoc] at h
  have h := gS.perm h (pmA (pm 2 rfl [0, 1] (by decide +kernel) rfl : List.Perm ([((ad 0), .inr (9, [.ref (ad 1), .ref (ad 3), .ref (ad 8), .ref (ad 12), .ref (ad 13), .ref (ad 17), .ref (ad 18), .ref (ad 19), .ref (ad 20), .ref (ad 21), .ref (ad 25), .ref (ad 37), .int (nI ng), .int (nI nw)]))] ++ [((ad 18), .inl (G.2.2 5, 100, .inr (.inr (.inr (.inr (oA ng lo))))))] : va_W) ([((ad 0), .inr (9, [.ref (ad 1), .ref (ad 3), .ref (ad 8), .ref (ad 12), .ref (ad 13), .ref (ad 17), .ref (ad 18), .ref (ad 19), .ref (ad 20), .ref (ad 21), .ref (ad 25), .ref (ad 37), .int (nI ng), .int (nI nw)])), ((ad 18), .inl (G.2.2 5, 100, .inr (.inr (.inr (.inr (oA ng lo))))))])))
  have h : gS G A s ([((ad 0), .inr (9, [.ref (ad 1), .ref (ad 3), .ref (ad 8), .ref (ad 12), .ref (ad 13), .ref (ad 17), .ref (ad 18), .ref (ad 19), .ref (ad 20), .ref (ad 21), .ref (ad 25), .ref (ad 37), .int (nI ng), .int (nI nw)])), ((ad 18), .inl (G.2.2 5, 100, .inr (.inr (.inr (.inr (oA ng lo))))))] ++ (plG ng lo D)) H locs := h
  refine W.widen (k := 0) (n := 0) (Nat.le_of_ble_eq_true rfl) (Nat.le_of_ble_eq_true rfl) ?_
  subst hw_3
  refine lv_if_eq (tgt := 28) hx hb dX9_defects_5 (by decide) (fun c_5 => ?_) (fun c_5 => ?_)
  · exact absurd c_5 (mIn_kn hk (by omega))
  · refine lv_iload_n hx hb dX9_defects_8 rfl (lv_at hl 2 rfl) ?_
    refine lv_iconst (v := 0) hx hb dX9_defects_9 (by decide) ?_
    refine lv_bipush (v := 99) hx hb dX9_defects_10 (by decide) ?_
    have hp : List.Perm ([((ad 0), .inr (9, [.ref (ad 1), .ref (ad 3), .ref (ad 8), .ref (ad 12), .ref (ad 13), .ref (ad 17), .ref (ad 18), .ref (ad 19), .ref (ad 20), .ref (ad 21), .ref (ad 25), .ref (ad 37), .int (nI ng), .int (nI nw)])), ((ad 18), .inl (G.2.2 5, 100, .inr (.inr (.inr (.inr (oA ng lo))))))] ++ (plG ng lo D) : va_W) ([] ++ ([((ad 0), .inr (9, [.ref (ad 1), .ref (ad 3), .ref (ad 8), .ref (ad 12), .ref (ad 13), .ref (ad 17), .ref (ad 18), .ref (ad 19), .ref (ad 20), .ref (ad 21), .ref (ad 25), .ref (ad 37), .int (nI ng), .int (nI nw)])), ((ad 18), .inl (G.2.2 5, 100, .inr (.inr (.inr (.inr (oA ng lo))))))] ++ (plG ng lo D))) := List.Perm.refl _
    refine k_i C h hp (r_runS C h hp (As := [.int y, .int 0, .int 99]) (rest := []) (h_within l G y 0 99) (va_cwS 3 C.1.1.2.2.2.2 gX9_defects_X9_within rfl rfl rfl (by decide +kernel) ⟨Nat.le_of_ble_eq_true rfl, Nat.le_of_ble_eq_true rfl⟩) rfl hl.1 (Nat.le_of_ble_eq_true rfl) dX9_defects_12 ⟨Nat.le_of_ble_eq_true rfl, Nat.le_of_ble_eq_true rfl⟩) (fun r_4 u_5 H locs hw_6 h => ?_)
    have h : gS G A s ([((ad 0), .inr (9, [.ref (ad 1), .ref (ad 3), .ref (ad 8), .ref (ad 12), .ref (ad 13), .ref (ad 17), .ref (ad 18), .ref (ad 19), .ref (ad 20), .ref (ad 21), .ref (ad 25), .ref (ad 37), .int (nI ng), .int (nI nw)])), ((ad 18), .inl (G.2.2 5, 100, .inr (.inr (.inr (.inr (oA ng lo))))))] ++ (plG ng lo D)) H locs := h
    refine W.widen (k := 0) (n := 0) (Nat.le_of_ble_eq_true rfl) (Nat.le_of_ble_eq_true rfl) ?_
    subst hw_6
    refine lv_if_eq (tgt := 28) hx hb dX9_defects_15 (by decide) (fun c_15 => ?_) (fun c_15 => ?_)
    · exact absurd c_15 hy
    · refine lv_iload_n hx hb dX9_defects_18 rfl (lv_at hl 3 rfl) ?_
      refine lv_iconst (v := 0) hx hb dX9_defects_19 (by decide) ?_
      refine lv_bipush (v := 90) hx hb dX9_defects_20 (by decide) ?_
      have hp : List.Perm ([((ad 0), .inr (9, [.ref (ad 1), .ref (ad 3), .ref (ad 8), .ref (ad 12), .ref (ad 13), .ref (ad 17), .ref (ad 18), .ref (ad 19), .ref (ad 20), .ref (ad 21), .ref (ad 25), .ref (ad 37), .int (nI ng), .int (nI nw)])), ((ad 18), .inl (G.2.2 5, 100, .inr (.inr (.inr (.inr (oA ng lo))))))] ++ (plG ng lo D) : va_W) ([] ++ ([((ad 0), .inr (9, [.ref (ad 1), .ref (ad 3), .ref (ad 8), .ref (ad 12), .ref (ad 13), .ref (ad 17), .ref (ad 18), .ref (ad 19), .ref (ad 20), .ref (ad 21), .ref (ad 25), .ref (ad 37), .int (nI ng), .int (nI nw)])), ((ad 18), .inl (G.2.2 5, 100, .inr (.inr (.inr (.inr (oA ng lo))))))] ++ (plG ng lo D))) := List.Perm.refl _
      refine k_i C h hp (r_runS C h hp (As := [.int z, .int 0, .int 90]) (rest := []) (h_within l G z 0 90) (va_cwS 3 C.1.1.2.2.2.2 gX9_defects_X9_within rfl rfl rfl (by decide +kernel) ⟨Nat.le_of_ble_eq_true rfl, Nat.le_of_ble_eq_true rfl⟩) rfl hl.1 (Nat.le_of_ble_eq_true rfl) dX9_defects_22 ⟨Nat.le_of_ble_eq_true rfl, Nat.le_of_ble_eq_true rfl⟩) (fun r_7 u_8 H locs hw_9 h => ?_)
      have h : gS G A s ([((ad 0), .inr (9, [.ref (ad 1), .ref (ad 3), .ref (ad 8), .ref (ad 12), .ref (ad 13), .ref (ad 17), .ref (ad 18), .ref (ad 19), .ref (ad 20), .ref (ad 21), .ref (ad 25), .ref (ad 37), .int (nI ng), .int (nI nw)])), ((ad 18), .inl (G.2.2 5, 100, .inr (.inr (.inr (.inr (oA ng lo))))))] ++ (plG ng lo D)) H locs := h
      refine W.widen (k := 0) (n := 0) (Nat.le_of_ble_eq_true rfl) (Nat.le_of_ble_eq_true rfl) ?_
      subst hw_9
      refine lv_if_ne (tgt := 30) hx hb dX9_defects_25 (by decide) (fun c_25 => ?_) (fun c_25 => ?_)
      · refine lv_aload_n hx hb dX9_defects_30 rfl (lv_at hl 0 rfl) ?_
        refine r_get C h 0 rfl (Cn := RX9) (T := TX9) (N := 14) rfl hinX9 6 (by decide) (index := 47) (ref := "ScaleHouse") wd0 rfl (v := .ref (ad 18)) rfl dX9_defects_31 ?_
        refine lv_iload_n hx hb dX9_defects_34 rfl (lv_at hl 1 rfl) ?_
        refine r_aald C h 1 5 rfl rfl (i := (nI k)) (vp_in_nI (by omega) (by decide)) (v := (lo k)) (oA_at lo (by omega) (by omega)) dX9_defects_35 ?_
        refine lv_iload_n hx hb dX9_defects_36 rfl (lv_at hl 2 rfl) ?_
        refine r_putN C h (2 + (k)) (pl_R rfl (plG_at (by omega))) (Cn := RX3) (T := TX3) (N := 9) rfl hinX3 tyX3 tyX3_ok nmX3 5 (by decide) (index := 159) (ref := "ScaleHouse$Log") wd1 rfl rfl (v := .int y) rfl rfl (show 5 < 9 by decide) dX9_defects_37 (fun H locs h => ?_)
        rw [pl_RS (P := [((ad 0), .inr (9, [.ref (ad 1), .ref (ad 3), .ref (ad 8), .ref (ad 12), .ref (ad 13), .ref (ad 17), .ref (ad 18), .ref (ad 19), .ref (ad 20), .ref (ad 21), .ref (ad 25), .ref (ad 37), .int (nI ng), .int (nI nw)])), ((ad 18), .inl (G.2.2 5, 100, .inr (.inr (.inr (.inr (oA ng lo))))))]) (n := 2) (j := k) rfl (plG_set5 (by omega))] at h
        have h : gS G A s ([((ad 0), .inr (9, [.ref (ad 1), .ref (ad 3), .ref (ad 8), .ref (ad 12), .ref (ad 13), .ref (ad 17), .ref (ad 18), .ref (ad 19), .ref (ad 20), .ref (ad 21), .ref (ad 25), .ref (ad 37), .int (nI ng), .int (nI nw)])), ((ad 18), .inl (G.2.2 5, 100, .inr (.inr (.inr (.inr (oA ng lo))))))] ++ (plG ng lo (va_up D 5 (upd (D 5) k y)))) H locs := h
        refine lv_aload_n hx hb dX9_defects_40 rfl (lv_at hl 0 rfl) ?_
        refine r_get C h 0 rfl (Cn := RX9) (T := TX9) (N := 14) rfl hinX9 6 (by decide) (index := 47) (ref := "ScaleHouse") wd0 rfl (v := .ref (ad 18)) rfl dX9_defects_41 ?_
        refine lv_iload_n hx hb dX9_defects_44 rfl (lv_at hl 1 rfl) ?_
        refine r_aald C h 1 5 rfl rfl (i := (nI k)) (vp_in_nI (by omega) (by decide)) (v := (lo k)) (oA_at lo (by omega) (by omega)) dX9_defects_45 ?_
        refine lv_iload_n hx hb dX9_defects_46 rfl (lv_at hl 3 rfl) ?_
        refine r_putN C h (2 + (k)) (pl_R rfl (plG_at (by omega))) (Cn := RX3) (T := TX3) (N := 9) rfl hinX3 tyX3 tyX3_ok nmX3 6 (by decide) (index := 162) (ref := "ScaleHouse$Log") wd2 rfl rfl (v := .int z) rfl rfl (show 6 < 9 by decide) dX9_defects_47 (fun H locs h => ?_)
        rw [pl_RS (P := [((ad 0), .inr (9, [.ref (ad 1), .ref (ad 3), .ref (ad 8), .ref (ad 12), .ref (ad 13), .ref (ad 17), .ref (ad 18), .ref (ad 19), .ref (ad 20), .ref (ad 21), .ref (ad 25), .ref (ad 37), .int (nI ng), .int (nI nw)])), ((ad 18), .inl (G.2.2 5, 100, .inr (.inr (.inr (.inr (oA ng lo))))))]) (n := 2) (j := k) rfl (plG_set6 (by omega))] at h
        have h : gS G A s ([((ad 0), .inr (9, [.ref (ad 1), .ref (ad 3), .ref (ad 8), .ref (ad 12), .ref (ad 13), .ref (ad 17), .ref (ad 18), .ref (ad 19), .ref (ad 20), .ref (ad 21), .ref (ad 25), .ref (ad 37), .int (nI ng), .int (nI nw)])), ((ad 18), .inl (G.2.2 5, 100, .inr (.inr (.inr (.inr (oA ng lo))))))] ++ (plG ng lo (va_up (va_up D 5 (upd (D 5) k y)) 6 (upd ((va_up D 5 (upd (D 5) k y)) 6) k z)))) H locs := h
        refine lv_iconst (v := 1) hx hb dX9_defects_50 (by decide) ?_
        exact r_zret C h hr hlk (Nat.zero_le _) (Nat.zero_le _) (Or.inr rfl) () (rfl) (rfl) dX9_defects_51
      · exact absurd c_25 hz

set_option maxHeartbeats 4000000 in
set_option maxRecDepth 100000 in
theorem h_chkN (l : Launch) (G : gG) (ad : Nat → Nat) (ng nw : Nat) (lo : Nat → Nat) (D : Nat → Nat → Int32) (x y : Int32) (hok : hCok ng x y = false) : cM l yX9_check wsX9_check 2 60 (0) (0) G [.ref (ad 0), .int x, .int y] ([((ad 0), .inr (9, [.ref (ad 1), .ref (ad 3), .ref (ad 8), .ref (ad 12), .ref (ad 13), .ref (ad 17), .ref (ad 18), .ref (ad 19), .ref (ad 20), .ref (ad 21), .ref (ad 25), .ref (ad 37), .int (nI ng), .int (nI nw)])), ((ad 18), .inl (G.2.2 5, 100, .inr (.inr (.inr (.inr (oA ng lo))))))] ++ (plG ng lo D)) (qI G (S := Unit) (fun r _ => r = 0) (fun _ => [((ad 0), .inr (9, [.ref (ad 1), .ref (ad 3), .ref (ad 8), .ref (ad 12), .ref (ad 13), .ref (ad 17), .ref (ad 18), .ref (ad 19), .ref (ad 20), .ref (ad 21), .ref (ad 25), .ref (ad 37), .int (nI ng), .int (nI nw)])), ((ad 18), .inl (G.2.2 5, 100, .inr (.inr (.inr (.inr (oA ng lo))))))] ++ (plG ng lo D))) := by
  refine o_M (cc := cX9_check) (maxL := 3) (ret := (some .boolean)) (own := RX9) (by decide +kernel) rfl rfl (Nat.le_of_ble_eq_true rfl) ?_
  intro p e s m below meth c A ls H locs hA C h hr hlk hnm hl
  have hx := C.1.1.1
  have hb := C.1.1.2.1
  have hl : lv_has ls 3 [(0, .ref (ad 0)), (1, .int x), (2, .int y)] := hl
  refine lv_aload_n hx hb dX9_check_0 rfl (lv_at hl 0 rfl) ?_
  refine lv_iload_n hx hb dX9_check_1 rfl (lv_at hl 1 rfl) ?_
  have hp : List.Perm ([((ad 0), .inr (9, [.ref (ad 1), .ref (ad 3), .ref (ad 8), .ref (ad 12), .ref (ad 13), .ref (ad 17), .ref (ad 18), .ref (ad 19), .ref (ad 20), .ref (ad 21), .ref (ad 25), .ref (ad 37), .int (nI ng), .int (nI nw)])), ((ad 18), .inl (G.2.2 5, 100, .inr (.inr (.inr (.inr (oA ng lo))))))] ++ (plG ng lo D) : va_W) ([((ad 0), .inr (9, [.ref (ad 1), .ref (ad 3), .ref (ad 8), .ref (ad 12), .ref (ad 13), .ref (ad 17), .ref (ad 18), .ref (ad 19), .ref (ad 20), .ref (ad 21), .ref (ad 25), .ref (ad 37), .int (nI ng), .int (nI nw)]))] ++ ([((ad 18), .inl (G.2.2 5, 100, .inr (.inr (.inr (.inr (oA ng lo))))))] ++ (plG ng lo D))) := pmB (pm 2 rfl [0, 1] (by decide +kernel) rfl)
  refine k_i C h hp (r_runV C h hp 0 rfl rfl (As := [.int x]) (rest := []) (h_isLog l G ad ng nw x) (cwV 1 C.1.1.2.2.2.2 gX9_check_X9_isLog rfl rfl rfl (by decide +kernel) ⟨Nat.le_of_ble_eq_true rfl, Nat.le_of_ble_eq_true rfl⟩) rfl hl.1 (Nat.le_of_ble_eq_true rfl) dX9_check_2 ⟨Nat.le_of_ble_eq_true rfl, Nat.le_of_ble_eq_true rfl⟩) (fun r_1 u_2 H locs hw_3 h => ?_)
  have h : gS G A s ([((ad 0), .inr (9, [.ref (ad 1), .ref (ad 3), .ref (ad 8), .ref (ad 12), .ref (ad 13), .ref (ad 17), .ref (ad 18), .ref (ad 19), .ref (ad 20), .ref (ad 21), .ref (ad 25), .ref (ad 37), .int (nI ng), .int (nI nw)]))] ++ ([((ad 18), .inl (G.2.2 5, 100, .inr (.inr (.inr (.inr (oA ng lo))))))] ++ (plG ng lo D))) H locs := h
  rw [← List.append_assoc] at h
  have h := gS.perm h (pmA (pm 2 rfl [0, 1] (by decide +kernel) rfl : List.Perm ([((ad 0), .inr (9, [.ref (ad 1), .ref (ad 3), .ref (ad 8), .ref (ad 12), .ref (ad 13), .ref (ad 17), .ref (ad 18), .ref (ad 19), .ref (ad 20), .ref (ad 21), .ref (ad 25), .ref (ad 37), .int (nI ng), .int (nI nw)]))] ++ [((ad 18), .inl (G.2.2 5, 100, .inr (.inr (.inr (.inr (oA ng lo))))))] : va_W) ([((ad 0), .inr (9, [.ref (ad 1), .ref (ad 3), .ref (ad 8), .ref (ad 12), .ref (ad 13), .ref (ad 17), .ref (ad 18), .ref (ad 19), .ref (ad 20), .ref (ad 21), .ref (ad 25), .ref (ad 37), .int (nI ng), .int (nI nw)])), ((ad 18), .inl (G.2.2 5, 100, .inr (.inr (.inr (.inr (oA ng lo))))))])))
  have h : gS G A s ([((ad 0), .inr (9, [.ref (ad 1), .ref (ad 3), .ref (ad 8), .ref (ad 12), .ref (ad 13), .ref (ad 17), .ref (ad 18), .ref (ad 19), .ref (ad 20), .ref (ad 21), .ref (ad 25), .ref (ad 37), .int (nI ng), .int (nI nw)])), ((ad 18), .inl (G.2.2 5, 100, .inr (.inr (.inr (.inr (oA ng lo))))))] ++ (plG ng lo D)) H locs := h
  refine W.widen (k := 0) (n := 0) (Nat.le_of_ble_eq_true rfl) (Nat.le_of_ble_eq_true rfl) ?_
  subst hw_3
  refine lv_if_eq (tgt := 18) hx hb dX9_check_5 (by decide) (fun c_5 => ?_) (fun c_5 => ?_)
  · refine lv_iconst (v := 0) hx hb dX9_check_18 (by decide) ?_
    exact r_zret C h hr hlk (Nat.zero_le _) (Nat.zero_le _) (Or.inl rfl) () (rfl) (rfl) dX9_check_19
  · refine lv_iload_n hx hb dX9_check_8 rfl (lv_at hl 2 rfl) ?_
    refine lv_iconst (v := 1) hx hb dX9_check_9 (by decide) ?_
    refine lv_bipush (v := 99) hx hb dX9_check_10 (by decide) ?_
    have hp : List.Perm ([((ad 0), .inr (9, [.ref (ad 1), .ref (ad 3), .ref (ad 8), .ref (ad 12), .ref (ad 13), .ref (ad 17), .ref (ad 18), .ref (ad 19), .ref (ad 20), .ref (ad 21), .ref (ad 25), .ref (ad 37), .int (nI ng), .int (nI nw)])), ((ad 18), .inl (G.2.2 5, 100, .inr (.inr (.inr (.inr (oA ng lo))))))] ++ (plG ng lo D) : va_W) ([] ++ ([((ad 0), .inr (9, [.ref (ad 1), .ref (ad 3), .ref (ad 8), .ref (ad 12), .ref (ad 13), .ref (ad 17), .ref (ad 18), .ref (ad 19), .ref (ad 20), .ref (ad 21), .ref (ad 25), .ref (ad 37), .int (nI ng), .int (nI nw)])), ((ad 18), .inl (G.2.2 5, 100, .inr (.inr (.inr (.inr (oA ng lo))))))] ++ (plG ng lo D))) := List.Perm.refl _
    refine k_i C h hp (r_runS C h hp (As := [.int y, .int 1, .int 99]) (rest := []) (h_within l G y 1 99) (va_cwS 3 C.1.1.2.2.2.2 gX9_check_X9_within rfl rfl rfl (by decide +kernel) ⟨Nat.le_of_ble_eq_true rfl, Nat.le_of_ble_eq_true rfl⟩) rfl hl.1 (Nat.le_of_ble_eq_true rfl) dX9_check_12 ⟨Nat.le_of_ble_eq_true rfl, Nat.le_of_ble_eq_true rfl⟩) (fun r_4 u_5 H locs hw_6 h => ?_)
    have h : gS G A s ([((ad 0), .inr (9, [.ref (ad 1), .ref (ad 3), .ref (ad 8), .ref (ad 12), .ref (ad 13), .ref (ad 17), .ref (ad 18), .ref (ad 19), .ref (ad 20), .ref (ad 21), .ref (ad 25), .ref (ad 37), .int (nI ng), .int (nI nw)])), ((ad 18), .inl (G.2.2 5, 100, .inr (.inr (.inr (.inr (oA ng lo))))))] ++ (plG ng lo D)) H locs := h
    refine W.widen (k := 0) (n := 0) (Nat.le_of_ble_eq_true rfl) (Nat.le_of_ble_eq_true rfl) ?_
    subst hw_6
    refine lv_if_ne (tgt := 20) hx hb dX9_check_15 (by decide) (fun c_15 => ?_) (fun c_15 => ?_)
    · exact absurd hok (by unfold hCok; simp [c_5, c_15])
    · refine lv_iconst (v := 0) hx hb dX9_check_18 (by decide) ?_
      exact r_zret C h hr hlk (Nat.zero_le _) (Nat.zero_le _) (Or.inl rfl) () (rfl) (rfl) dX9_check_19

set_option maxHeartbeats 4000000 in
set_option maxRecDepth 100000 in
theorem h_chk (l : Launch) (G : gG) (ad : Nat → Nat) (ng nw : Nat) (lo : Nat → Nat) (D : Nat → Nat → Int32) (k : Nat) (y : Int32) (hk : k < ng) (hng : ng ≤ 100) (hy : ¬ mIn y 1 99 = 0) : cM l yX9_check wsX9_check 2 60 (0) (0) G [.ref (ad 0), .int (nI k), .int y] ([((ad 0), .inr (9, [.ref (ad 1), .ref (ad 3), .ref (ad 8), .ref (ad 12), .ref (ad 13), .ref (ad 17), .ref (ad 18), .ref (ad 19), .ref (ad 20), .ref (ad 21), .ref (ad 25), .ref (ad 37), .int (nI ng), .int (nI nw)])), ((ad 18), .inl (G.2.2 5, 100, .inr (.inr (.inr (.inr (oA ng lo))))))] ++ (plG ng lo D)) (qI G (S := Unit) (fun r _ => r = 1) (fun _ => [((ad 0), .inr (9, [.ref (ad 1), .ref (ad 3), .ref (ad 8), .ref (ad 12), .ref (ad 13), .ref (ad 17), .ref (ad 18), .ref (ad 19), .ref (ad 20), .ref (ad 21), .ref (ad 25), .ref (ad 37), .int (nI ng), .int (nI nw)])), ((ad 18), .inl (G.2.2 5, 100, .inr (.inr (.inr (.inr (oA ng lo))))))] ++ (plG ng lo (va_up D 7 (upd (D 7) k y))))) := by
  refine o_M (cc := cX9_check) (maxL := 3) (ret := (some .boolean)) (own := RX9) (by decide +kernel) rfl rfl (Nat.le_of_ble_eq_true rfl) ?_
  intro p e s m below meth c A ls H locs hA C h hr hlk hnm hl
  have hx := C.1.1.1
  have hb := C.1.1.2.1
  have hl : lv_has ls 3 [(0, .ref (ad 0)), (1, .int (nI k)), (2, .int y)] := hl
  have wd0 : Cond.fieldLink RX9 47 "ScaleHouse" "logs" "[LScaleHouse$Log;" ∈ wsX9_check := by decide +kernel
  have hinX9 : ∀ w ∈ wsX90, w ∈ wsX9_check := fun _ h => List.mem_cons_of_mem _ (List.mem_append_left _ (List.mem_append_right _ h))
  have wd1 : Cond.fieldLinkNest RX9 191 "ScaleHouse$Log" "checked" "I" "ScaleHouse" ∈ nW := by decide +kernel
  have hinX3 : ∀ w ∈ wsX30, w ∈ wsX9_check := fun _ h => List.mem_cons_of_mem _ (List.mem_append_right _ h)
  refine lv_aload_n hx hb dX9_check_0 rfl (lv_at hl 0 rfl) ?_
  refine lv_iload_n hx hb dX9_check_1 rfl (lv_at hl 1 rfl) ?_
  have hp : List.Perm ([((ad 0), .inr (9, [.ref (ad 1), .ref (ad 3), .ref (ad 8), .ref (ad 12), .ref (ad 13), .ref (ad 17), .ref (ad 18), .ref (ad 19), .ref (ad 20), .ref (ad 21), .ref (ad 25), .ref (ad 37), .int (nI ng), .int (nI nw)])), ((ad 18), .inl (G.2.2 5, 100, .inr (.inr (.inr (.inr (oA ng lo))))))] ++ (plG ng lo D) : va_W) ([((ad 0), .inr (9, [.ref (ad 1), .ref (ad 3), .ref (ad 8), .ref (ad 12), .ref (ad 13), .ref (ad 17), .ref (ad 18), .ref (ad 19), .ref (ad 20), .ref (ad 21), .ref (ad 25), .ref (ad 37), .int (nI ng), .int (nI nw)]))] ++ ([((ad 18), .inl (G.2.2 5, 100, .inr (.inr (.inr (.inr (oA ng lo))))))] ++ (plG ng lo D))) := pmB (pm 2 rfl [0, 1] (by decide +kernel) rfl)
  refine k_i C h hp (r_runV C h hp 0 rfl rfl (As := [.int (nI k)]) (rest := []) (h_isLog l G ad ng nw (nI k)) (cwV 1 C.1.1.2.2.2.2 gX9_check_X9_isLog rfl rfl rfl (by decide +kernel) ⟨Nat.le_of_ble_eq_true rfl, Nat.le_of_ble_eq_true rfl⟩) rfl hl.1 (Nat.le_of_ble_eq_true rfl) dX9_check_2 ⟨Nat.le_of_ble_eq_true rfl, Nat.le_of_ble_eq_true rfl⟩) (fun r_1 u_2 H locs hw_3 h => ?_)
  have h : gS G A s ([((ad 0), .inr (9, [.ref (ad 1), .ref (ad 3), .ref (ad 8), .ref (ad 12), .ref (ad 13), .ref (ad 17), .ref (ad 18), .ref (ad 19), .ref (ad 20), .ref (ad 21), .ref (ad 25), .ref (ad 37), .int (nI ng), .int (nI nw)]))] ++ ([((ad 18), .inl (G.2.2 5, 100, .inr (.inr (.inr (.inr (oA ng lo))))))] ++ (plG ng lo D))) H locs := h
  rw [← List.append_assoc] at h
  have h := gS.perm h (pmA (pm 2 rfl [0, 1] (by decide +kernel) rfl : List.Perm ([((ad 0), .inr (9, [.ref (ad 1), .ref (ad 3), .ref (ad 8), .ref (ad 12), .ref (ad 13), .ref (ad 17), .ref (ad 18), .ref (ad 19), .ref (ad 20), .ref (ad 21), .ref (ad 25), .ref (ad 37), .int (nI ng), .int (nI nw)]))] ++ [((ad 18), .inl (G.2.2 5, 100, .inr (.inr (.inr (.inr (oA ng lo))))))] : va_W) ([((ad 0), .inr (9, [.ref (ad 1), .ref (ad 3), .ref (ad 8), .ref (ad 12), .ref (ad 13), .ref (ad 17), .ref (ad 18), .ref (ad 19), .ref (ad 20), .ref (ad 21), .ref (ad 25), .ref (ad 37), .int (nI ng), .int (nI nw)])), ((ad 18), .inl (G.2.2 5, 100, .inr (.inr (.inr (.inr (oA ng lo))))))])))
  have h : gS G A s ([((ad 0), .inr (9, [.ref (ad 1), .ref (ad 3), .ref (ad 8), .ref (ad 12), .ref (ad 13), .ref (ad 17), .ref (ad 18), .ref (ad 19), .ref (ad 20), .ref (ad 21), .ref (ad 25), .ref (ad 37), .int (nI ng), .int (nI nw)])), ((ad 18), .inl (G.2.2 5, 100, .inr (.inr (.inr (.inr (oA ng lo))))))] ++ (plG ng lo D)) H locs := h
  refine W.widen (k := 0) (n := 0) (Nat.le_of_ble_eq_true rfl) (Nat.le_of_ble_eq_true rfl) ?_
  subst hw_3
  refine lv_if_eq (tgt := 18) hx hb dX9_check_5 (by decide) (fun c_5 => ?_) (fun c_5 => ?_)
  · exact absurd c_5 (mIn_kn hk (by omega))
  · refine lv_iload_n hx hb dX9_check_8 rfl (lv_at hl 2 rfl) ?_
    refine lv_iconst (v := 1) hx hb dX9_check_9 (by decide) ?_
    refine lv_bipush (v := 99) hx hb dX9_check_10 (by decide) ?_
    have hp : List.Perm ([((ad 0), .inr (9, [.ref (ad 1), .ref (ad 3), .ref (ad 8), .ref (ad 12), .ref (ad 13), .ref (ad 17), .ref (ad 18), .ref (ad 19), .ref (ad 20), .ref (ad 21), .ref (ad 25), .ref (ad 37), .int (nI ng), .int (nI nw)])), ((ad 18), .inl (G.2.2 5, 100, .inr (.inr (.inr (.inr (oA ng lo))))))] ++ (plG ng lo D) : va_W) ([] ++ ([((ad 0), .inr (9, [.ref (ad 1), .ref (ad 3), .ref (ad 8), .ref (ad 12), .ref (ad 13), .ref (ad 17), .ref (ad 18), .ref (ad 19), .ref (ad 20), .ref (ad 21), .ref (ad 25), .ref (ad 37), .int (nI ng), .int (nI nw)])), ((ad 18), .inl (G.2.2 5, 100, .inr (.inr (.inr (.inr (oA ng lo))))))] ++ (plG ng lo D))) := List.Perm.refl _
    refine k_i C h hp (r_runS C h hp (As := [.int y, .int 1, .int 99]) (rest := []) (h_within l G y 1 99) (va_cwS 3 C.1.1.2.2.2.2 gX9_check_X9_within rfl rfl rfl (by decide +kernel) ⟨Nat.le_of_ble_eq_true rfl, Nat.le_of_ble_eq_true rfl⟩) rfl hl.1 (Nat.le_of_ble_eq_true rfl) dX9_check_12 ⟨Nat.le_of_ble_eq_true rfl, Nat.le_of_ble_eq_true rfl⟩) (fun r_4 u_5 H locs hw_6 h => ?_)
    have h : gS G A s ([((ad 0), .inr (9, [.ref (ad 1), .ref (ad 3), .ref (ad 8), .ref (ad 12), .ref (ad 13), .ref (ad 17), .ref (ad 18), .ref (ad 19), .ref (ad 20), .ref (ad 21), .ref (ad 25), .ref (ad 37), .int (nI ng), .int (nI nw)])), ((ad 18), .inl (G.2.2 5, 100, .inr (.inr (.inr (.inr (oA ng lo))))))] ++ (plG ng lo D)) H locs := h
    refine W.widen (k := 0) (n := 0) (Nat.le_of_ble_eq_true rfl) (Nat.le_of_ble_eq_true rfl) ?_
    subst hw_6
    refine lv_if_ne (tgt := 20) hx hb dX9_check_15 (by decide) (fun c_15 => ?_) (fun c_15 => ?_)
    · refine lv_aload_n hx hb dX9_check_20 rfl (lv_at hl 0 rfl) ?_
      refine r_get C h 0 rfl (Cn := RX9) (T := TX9) (N := 14) rfl hinX9 6 (by decide) (index := 47) (ref := "ScaleHouse") wd0 rfl (v := .ref (ad 18)) rfl dX9_check_21 ?_
      refine lv_iload_n hx hb dX9_check_24 rfl (lv_at hl 1 rfl) ?_
      refine r_aald C h 1 5 rfl rfl (i := (nI k)) (vp_in_nI (by omega) (by decide)) (v := (lo k)) (oA_at lo (by omega) (by omega)) dX9_check_25 ?_
      refine lv_iload_n hx hb dX9_check_26 rfl (lv_at hl 2 rfl) ?_
      refine r_putN C h (2 + (k)) (pl_R rfl (plG_at (by omega))) (Cn := RX3) (T := TX3) (N := 9) rfl hinX3 tyX3 tyX3_ok nmX3 7 (by decide) (index := 191) (ref := "ScaleHouse$Log") wd1 rfl rfl (v := .int y) rfl rfl (show 7 < 9 by decide) dX9_check_27 (fun H locs h => ?_)
      rw [pl_RS (P := [((ad 0), .inr (9, [.ref (ad 1), .ref (ad 3), .ref (ad 8), .ref (ad 12), .ref (ad 13), .ref (ad 17), .ref (ad 18), .ref (ad 19), .ref (ad 20), .ref (ad 21), .ref (ad 25), .ref (ad 37), .int (nI ng), .int (nI nw)])), ((ad 18), .inl (G.2.2 5, 100, .inr (.inr (.inr (.inr (oA ng lo))))))]) (n := 2) (j := k) rfl (plG_set7 (by omega))] at h
      have h : gS G A s ([((ad 0), .inr (9, [.ref (ad 1), .ref (ad 3), .ref (ad 8), .ref (ad 12), .ref (ad 13), .ref (ad 17), .ref (ad 18), .ref (ad 19), .ref (ad 20), .ref (ad 21), .ref (ad 25), .ref (ad 37), .int (nI ng), .int (nI nw)])), ((ad 18), .inl (G.2.2 5, 100, .inr (.inr (.inr (.inr (oA ng lo))))))] ++ (plG ng lo (va_up D 7 (upd (D 7) k y)))) H locs := h
      refine lv_iconst (v := 1) hx hb dX9_check_30 (by decide) ?_
      exact r_zret C h hr hlk (Nat.zero_le _) (Nat.zero_le _) (Or.inr rfl) () (rfl) (rfl) dX9_check_31
    · exact absurd c_15 hy

/-- enough steps are left: y is below 2 ^ b, or below and the pair is one step old -/
def gst (i x y : Nat) : Prop := i ≤ 98 ∧ (∃ b, i + 2 * b ≤ 96 ∧ y < 2 ^ b) ∨ i ≤ 98 ∧ y < x ∧ ∃ b, i + 2 * b ≤ 97 ∧ x < 2 ^ b
theorem gst_i {i x y : Nat} (h : gst i x y) : i ≤ 98 := h.elim And.left And.left
theorem gst_s {i x y : Nat} (h : gst i x y) (hy : 0 < y) : gst (i + 1) y (x % y) := by
  have hm := Nat.mod_lt x hy
  rcases h with ⟨h0, b, h1, h2⟩ | ⟨h0, h3, b, h1, h2⟩
  · exact Or.inr ⟨by omega, hm, b, by omega, h2⟩
  · have a3 := Nat.div_add_mod x y
    have a4 : 1 ≤ x / y := Nat.div_pos (by omega) hy
    have a5 : y * 1 ≤ y * (x / y) := Nat.mul_le_mul_left _ a4
    have a6 : 2 * (x % y) < 2 ^ b := by omega
    cases b with
    | zero => rw [Nat.pow_zero] at h2; omega
    | succ b =>
      rw [Nat.pow_succ] at a6
      exact Or.inl ⟨by omega, b, by omega, by omega⟩

set_option maxHeartbeats 4000000 in
set_option maxRecDepth 100000 in
theorem lp_X9_gcd {p : Program} {l : Launch} {e : Env} {R : Room} {s : State} {m : MethodId} {args : Array Value} {below : List Frame} {meth : Method} {c : Code} {cells slots : Nat} {Q : State → Prop} {G : gG} {A : Nat → Prop} (C : gC p m c cX9_commonDivisor 11 s args wsX9_commonDivisor RX9 G A) (g : Nat) (kx : ∀ (H : Heap) (locs : List Loc) (ls : Array Slot), gS G A s [] H locs → lv_has ls 11 [(4, .long (lN g))] → W p l e R s m args below meth c H locs cells slots Q (F0 m 44 ls [])) :
    ∀ (r : Nat) (x y i : Nat) (H : Heap) (locs : List Loc) (ls : Array Slot), (i + r = 100) → (x < 2 ^ 31) → (y < 2 ^ 31) → (gst i x y) → (Nat.gcd y x = g) →  gS G A s ([]) H locs → lv_has ls 11 [(4, .long (lN x)), (6, .long (lN y)), (8, .int (nI i))] → W p l e R s m args below meth c H locs cells slots Q (F0 m 9 ls []) := by
  have hx := C.1.1.1
  have hb := C.1.1.2.1
  intro r
  induction r with
  | zero =>
    intro x y i H locs ls hf hx2 hy2 hst hg h hl
    exact absurd (gst_i hst) (by omega)
  | succ r ih =>
    intro x y i H locs ls hf hx2 hy2 hst hg h hl
    refine lv_iload hx hb dX9_commonDivisor_9 (lv_at hl 2 rfl) ?_
    refine lv_bipush (v := 100) hx hb dX9_commonDivisor_11 (by decide) ?_
    refine lv_icmp_ge (tgt := 44) hx hb dX9_commonDivisor_13 (by decide) (fun c_13 => ?_) (fun c_13 => ?_)
    · exact absurd c_13 (nI_ge (b := 100) (by have := gst_i hst; omega) (by decide))
    · refine lv_lload hx hb dX9_commonDivisor_16 (lv_at hl 1 rfl) ?_
      refine lv_lconst (v := 0) hx hb dX9_commonDivisor_18 (by decide) ?_
      refine W.lcmp hx hb dX9_commonDivisor_19 ?_
      refine lv_if_eq (tgt := 44) hx hb dX9_commonDivisor_20 (by decide) (fun c_20 => ?_) (fun c_20 => ?_)
      · rw [lg_cmp_eq] at c_20
        have e20 : y = 0 := (pk_lEQ (b := 0) (by omega) (by decide)).mp c_20
        subst e20
        obtain rfl : x = g := by rw [Nat.gcd_zero_left] at hg; exact hg
        exact kx _ _ ls h (lv_sub hl [0] rfl)
      · rw [lg_cmp_eq] at c_20
        have e20 : 0 < y := Nat.pos_of_ne_zero (fun z9 => c_20 (by rw [z9]; rfl))
        have hml := Nat.mod_lt x e20
        refine lv_lload hx hb dX9_commonDivisor_23 (lv_at hl 0 rfl) ?_
        refine lv_lload hx hb dX9_commonDivisor_25 (lv_at hl 1 rfl) ?_
        refine lv_lrem hx hb dX9_commonDivisor_27 (c_20) ?_
        refine lv_cgl (y := (lN (x % y))) (pk_lRem (by omega) (by omega) (by omega)) ?_
        refine lv_lstore (lv' := [(9, .long (lN (x % y))), (4, .long (lN x)), (6, .long (lN y)), (8, .int (nI i))]) hx hb dX9_commonDivisor_28 hl (by decide) rfl (fun ls hl => ?_)
        refine lv_lload hx hb dX9_commonDivisor_30 (lv_at hl 2 rfl) ?_
        refine lv_lstore (lv' := [(4, .long (lN y)), (9, .long (lN (x % y))), (6, .long (lN y)), (8, .int (nI i))]) hx hb dX9_commonDivisor_32 hl (by decide) rfl (fun ls hl => ?_)
        refine lv_lload hx hb dX9_commonDivisor_34 (lv_at hl 1 rfl) ?_
        refine lv_lstore (lv' := [(6, .long (lN (x % y))), (4, .long (lN y)), (9, .long (lN (x % y))), (8, .int (nI i))]) hx hb dX9_commonDivisor_36 hl (by decide) rfl (fun ls hl => ?_)
        refine lv_iinc (v := nI (i + 1)) (lv' := [(8, .int (nI (i + 1))), (6, .long (lN (x % y))), (4, .long (lN y)), (9, .long (lN (x % y)))]) hx hb dX9_commonDivisor_38 hl (k := 3) rfl (nI_1 _) (by decide) rfl (fun ls hl => ?_)
        refine lv_goto (tgt := 9) hx hb dX9_commonDivisor_41 (by decide) ?_
        exact ih y (x % y) (i + 1) _ _ ls (by omega) (by omega) (by omega) (gst_s hst e20) (by rw [← hg]; exact (Nat.gcd_rec y x).symm) h (lv_sub hl [2, 1, 0] rfl)

set_option maxHeartbeats 4000000 in
set_option maxRecDepth 100000 in
theorem h_gcd (l : Launch) (G : gG) (x y : Nat) (hx2 : x < 2 ^ 31) (hy2 : y < 2 ^ 31) : cM l yX9_commonDivisor wsX9_commonDivisor 0 0 (0) (0) G [.long (lN x), .long (lN y)] ([]) (qL G (S := Unit) (fun r _ => r = lN (Nat.gcd y x)) (fun _ => [])) := by
  refine o_M (cc := cX9_commonDivisor) (maxL := 11) (ret := (some .long)) (own := RX9) (by decide +kernel) rfl rfl (Nat.le_of_ble_eq_true rfl) ?_
  intro p e s m below meth c A ls H locs hA C h hr hlk hnm hl
  have hx := C.1.1.1
  have hb := C.1.1.2.1
  have hl : lv_has ls 11 [(0, .long (lN x)), (2, .long (lN y))] := hl
  refine lv_lload_n hx hb dX9_commonDivisor_0 rfl (lv_at hl 0 rfl) ?_
  refine lv_lstore (lv' := [(4, .long (lN x)), (0, .long (lN x)), (2, .long (lN y))]) hx hb dX9_commonDivisor_1 hl (by decide) rfl (fun ls hl => ?_)
  refine lv_lload_n hx hb dX9_commonDivisor_3 rfl (lv_at hl 2 rfl) ?_
  refine lv_lstore (lv' := [(6, .long (lN y)), (4, .long (lN x)), (0, .long (lN x)), (2, .long (lN y))]) hx hb dX9_commonDivisor_4 hl (by decide) rfl (fun ls hl => ?_)
  refine lv_iconst (v := 0) hx hb dX9_commonDivisor_6 (by decide) ?_
  refine lv_cgi (y := (nI 0)) (rfl) ?_
  refine lv_istore (lv' := [(8, .int (nI 0)), (6, .long (lN y)), (4, .long (lN x)), (0, .long (lN x)), (2, .long (lN y))]) hx hb dX9_commonDivisor_7 hl (by decide) rfl (fun ls hl => ?_)
  refine lp_X9_gcd C (Nat.gcd y x) (fun H locs ls h hl => ?_) 100 x y 0 _ _ ls rfl hx2 hy2 (Or.inl ⟨by omega, 31, by omega, hy2⟩) rfl h (lv_sub hl [2, 1, 0] rfl)
  refine lv_lload hx hb dX9_commonDivisor_44 (lv_at hl 0 rfl) ?_
  exact r_lret C h hr hlk (Nat.zero_le _) (Nat.zero_le _) () rfl rfl dX9_commonDivisor_46

def hRc (D : Nat → Nat → Int32) (rd ck : Nat → Nat) (ng : Nat) : Prop := ∀ i, i < ng → D 2 i = nI (rd i) ∧ rd i ≤ 99 ∧ D 7 i = nI (ck i) ∧ ck i ≤ 99
def hQ (D : Nat → Nat → Int32) (stick : Int32) (i : Nat) : Bool := decide (D 1 i = stick)
def hHab (D : Nat → Nat → Int32) (rd ck : Nat → Nat) (ng : Nat) (stick wh : Int32) : Int64 :=
  if mIn stick 0 5 = 0 then -1 else if mIn wh 0 1 = 0 then -1
  else if Nat.gcd (hSum (hQ D stick) (fun i => ck i * ck i) ng 0) (hSum (hQ D stick) (fun i => rd i * ck i) ng 0) = 0 then -1
  else if wh = 0 then lN (hSum (hQ D stick) (fun i => rd i * ck i) ng 0 / Nat.gcd (hSum (hQ D stick) (fun i => ck i * ck i) ng 0) (hSum (hQ D stick) (fun i => rd i * ck i) ng 0))
  else lN (hSum (hQ D stick) (fun i => ck i * ck i) ng 0 / Nat.gcd (hSum (hQ D stick) (fun i => ck i * ck i) ng 0) (hSum (hQ D stick) (fun i => rd i * ck i) ng 0))

set_option maxHeartbeats 4000000 in
set_option maxRecDepth 100000 in
theorem lp_X9_habit {p : Program} {l : Launch} {e : Env} {R : Room} {s : State} {m : MethodId} {args : Array Value} {below : List Frame} {meth : Method} {c : Code} {cells slots : Nat} {Q : State → Prop} {G : gG} {A : Nat → Prop} (C : gC p m c cX9_habit 9 s args wsX9_habit RX9 G A) (ad : Nat → Nat) (ng nw : Nat) (lo : Nat → Nat) (D : Nat → Nat → Int32) (rd ck : Nat → Nat) (hng2 : ng ≤ 100) (hrc : hRc D rd ck ng) (stick wh : Int32) (za zb : Nat) (kx : ∀ (H : Heap) (locs : List Loc) (ls : Array Slot), gS G A s ([((ad 0), .inr (9, [.ref (ad 1), .ref (ad 3), .ref (ad 8), .ref (ad 12), .ref (ad 13), .ref (ad 17), .ref (ad 18), .ref (ad 19), .ref (ad 20), .ref (ad 21), .ref (ad 25), .ref (ad 37), .int (nI ng), .int (nI nw)])), ((ad 18), .inl (G.2.2 5, 100, .inr (.inr (.inr (.inr (oA ng lo))))))] ++ (plG ng lo D)) H locs → lv_has ls 9 [(0, .ref (ad 0)), (1, .int stick), (2, .int wh), (3, .long (lN za)), (5, .long (lN zb))] → W p l e R s m args below meth c H locs cells slots Q (F0 m 93 ls [])) :
    ∀ (r : Nat) (i a b : Nat) (H : Heap) (locs : List Loc) (ls : Array Slot), (i + r = ng) → (a + hSum (hQ D stick) (fun i => rd i * ck i) r i = za) → (b + hSum (hQ D stick) (fun i => ck i * ck i) r i = zb) →  gS G A s ([((ad 0), .inr (9, [.ref (ad 1), .ref (ad 3), .ref (ad 8), .ref (ad 12), .ref (ad 13), .ref (ad 17), .ref (ad 18), .ref (ad 19), .ref (ad 20), .ref (ad 21), .ref (ad 25), .ref (ad 37), .int (nI ng), .int (nI nw)])), ((ad 18), .inl (G.2.2 5, 100, .inr (.inr (.inr (.inr (oA ng lo))))))] ++ (plG ng lo D)) H locs → lv_has ls 9 [(0, .ref (ad 0)), (1, .int stick), (2, .int wh), (3, .long (lN a)), (5, .long (lN b)), (7, .int (nI i))] → W p l e R s m args below meth c H locs cells slots Q (F0 m 28 ls []) := by
  have hx := C.1.1.1
  have hb := C.1.1.2.1
  have wd0 : Cond.fieldLink RX9 78 "ScaleHouse" "logCount" "I" ∈ wsX9_habit := by decide +kernel
  have hinX9 : ∀ w ∈ wsX90, w ∈ wsX9_habit := fun _ h => List.mem_cons_of_mem _ (List.mem_append_left _ (List.mem_append_right _ h))
  have wd1 : Cond.fieldLink RX9 47 "ScaleHouse" "logs" "[LScaleHouse$Log;" ∈ wsX9_habit := by decide +kernel
  have wd2 : Cond.fieldLinkNest RX9 196 "ScaleHouse$Log" "stick" "I" "ScaleHouse" ∈ nW := by decide +kernel
  have hinX3 : ∀ w ∈ wsX30, w ∈ wsX9_habit := fun _ h => List.mem_cons_of_mem _ (List.mem_append_right _ h)
  have wd3 : Cond.fieldLinkNest RX9 199 "ScaleHouse$Log" "read" "I" "ScaleHouse" ∈ nW := by decide +kernel
  have wd4 : Cond.fieldLinkNest RX9 191 "ScaleHouse$Log" "checked" "I" "ScaleHouse" ∈ nW := by decide +kernel
  intro r
  induction r with
  | zero =>
    intro i a b H locs ls hi hza hzb h hl
    refine lv_iload hx hb dX9_habit_28 (lv_at hl 5 rfl) ?_
    refine lv_aload_n hx hb dX9_habit_30 rfl (lv_at hl 0 rfl) ?_
    refine r_get C h 0 rfl (Cn := RX9) (T := TX9) (N := 14) rfl hinX9 12 (by decide) (index := 78) (ref := "ScaleHouse") wd0 rfl (v := .int (nI ng)) rfl dX9_habit_31 ?_
    refine lv_icmp_ge (tgt := 93) hx hb dX9_habit_34 (by decide) (fun c_34 => ?_) (fun c_34 => ?_)
    · obtain rfl : a = za := hza
      obtain rfl : b = zb := hzb
      exact kx _ _ ls h (lv_sub hl [0, 1, 2, 3, 4] rfl)
    · exact absurd (by rw [show i = ng by omega]; exact Int32.le_refl _) c_34
  | succ r ih =>
    intro i a b H locs ls hi hza hzb h hl
    refine lv_iload hx hb dX9_habit_28 (lv_at hl 5 rfl) ?_
    refine lv_aload_n hx hb dX9_habit_30 rfl (lv_at hl 0 rfl) ?_
    refine r_get C h 0 rfl (Cn := RX9) (T := TX9) (N := 14) rfl hinX9 12 (by decide) (index := 78) (ref := "ScaleHouse") wd0 rfl (v := .int (nI ng)) rfl dX9_habit_31 ?_
    refine lv_icmp_ge (tgt := 93) hx hb dX9_habit_34 (by decide) (fun c_34 => ?_) (fun c_34 => ?_)
    · exact absurd c_34 (nI_ge (by omega) (by omega))
    · obtain ⟨hc1, hc2, hc3, hc4⟩ := hrc i (by omega)
      have hq1 := sq_le hc2 hc4
      have hq2 := sq_le hc4 hc4
      refine lv_aload_n hx hb dX9_habit_37 rfl (lv_at hl 0 rfl) ?_
      refine r_get C h 0 rfl (Cn := RX9) (T := TX9) (N := 14) rfl hinX9 6 (by decide) (index := 47) (ref := "ScaleHouse") wd1 rfl (v := .ref (ad 18)) rfl dX9_habit_38 ?_
      refine lv_iload hx hb dX9_habit_41 (lv_at hl 5 rfl) ?_
      refine r_aald C h 1 5 rfl rfl (i := (nI i)) (vp_in_nI (by omega) (by decide)) (v := (lo i)) (oA_at lo (by omega) (by omega)) dX9_habit_43 ?_
      refine lv_astore (lv' := [(8, .ref (lo i)), (0, .ref (ad 0)), (1, .int stick), (2, .int wh), (3, .long (lN a)), (5, .long (lN b)), (7, .int (nI i))]) hx hb dX9_habit_44 hl (by decide) rfl (fun ls hl => ?_)
      refine lv_aload hx hb dX9_habit_46 (lv_at hl 0 rfl) ?_
      refine r_getN C h (2 + (i)) (pl_R rfl (plG_at (by omega))) (Cn := RX3) (T := TX3) (N := 9) rfl hinX3 1 (by decide) (index := 196) (ref := "ScaleHouse$Log") wd2 rfl (v := .int (D 1 i)) rfl dX9_habit_48 ?_
      refine lv_iload_n hx hb dX9_habit_51 rfl (lv_at hl 2 rfl) ?_
      refine lv_icmp_ne (tgt := 87) hx hb dX9_habit_52 (by decide) (fun c_52 => ?_) (fun c_52 => ?_)
      · have d52 : ¬ hQ D stick i = true := fun z9 => c_52 (of_decide_eq_true z9)
        refine lv_iinc (v := nI (i + 1)) (lv' := [(7, .int (nI (i + 1))), (8, .ref (lo i)), (0, .ref (ad 0)), (1, .int stick), (2, .int wh), (3, .long (lN a)), (5, .long (lN b))]) hx hb dX9_habit_87 hl (k := 6) rfl (nI_1 _) (by decide) rfl (fun ls hl => ?_)
        refine lv_goto (tgt := 28) hx hb dX9_habit_90 (by decide) ?_
        exact ih (i + 1) a b _ _ ls (by omega) (by rw [← hza, hSum, if_neg d52, Nat.zero_add]) (by rw [← hzb, hSum, if_neg d52, Nat.zero_add]) h (lv_sub hl [2, 3, 4, 5, 6, 0] rfl)
      · have d52 : hQ D stick i = true := decide_eq_true c_52
        refine lv_lload_n hx hb dX9_habit_55 rfl (lv_at hl 4 rfl) ?_
        refine lv_aload hx hb dX9_habit_56 (lv_at hl 0 rfl) ?_
        refine r_getN C h (2 + (i)) (pl_R rfl (plG_at (by omega))) (Cn := RX3) (T := TX3) (N := 9) rfl hinX3 2 (by decide) (index := 199) (ref := "ScaleHouse$Log") wd3 rfl (v := .int (D 2 i)) rfl dX9_habit_58 ?_
        refine lv_cgi (y := (nI (rd i))) (hc1) ?_
        refine lv_aload hx hb dX9_habit_61 (lv_at hl 0 rfl) ?_
        refine r_getN C h (2 + (i)) (pl_R rfl (plG_at (by omega))) (Cn := RX3) (T := TX3) (N := 9) rfl hinX3 7 (by decide) (index := 191) (ref := "ScaleHouse$Log") wd4 rfl (v := .int (D 7 i)) rfl dX9_habit_63 ?_
        refine lv_cgi (y := (nI (ck i))) (hc3) ?_
        refine lv_imul hx hb dX9_habit_66 ?_
        refine lv_cgi (y := (nI (rd i * ck i))) (by rw [pk_mul]) ?_
        refine lv_i2l hx hb dX9_habit_67 rfl ?_
        refine lv_cgl (y := (lN (rd i * ck i))) (nI_l (by omega)) ?_
        refine lv_ladd hx hb dX9_habit_68 ?_
        refine lv_cgl (y := (lN (a + rd i * ck i))) (lN_add _ _) ?_
        refine lv_lstore_n (lv' := [(3, .long (lN (a + rd i * ck i))), (8, .ref (lo i)), (0, .ref (ad 0)), (1, .int stick), (2, .int wh), (5, .long (lN b)), (7, .int (nI i))]) hx hb dX9_habit_69 rfl hl (by decide) rfl (fun ls hl => ?_)
        refine lv_lload hx hb dX9_habit_70 (lv_at hl 5 rfl) ?_
        refine lv_aload hx hb dX9_habit_72 (lv_at hl 1 rfl) ?_
        refine r_getN C h (2 + (i)) (pl_R rfl (plG_at (by omega))) (Cn := RX3) (T := TX3) (N := 9) rfl hinX3 7 (by decide) (index := 191) (ref := "ScaleHouse$Log") wd4 rfl (v := .int (D 7 i)) rfl dX9_habit_74 ?_
        refine lv_cgi (y := (nI (ck i))) (hc3) ?_
        refine lv_aload hx hb dX9_habit_77 (lv_at hl 1 rfl) ?_
        refine r_getN C h (2 + (i)) (pl_R rfl (plG_at (by omega))) (Cn := RX3) (T := TX3) (N := 9) rfl hinX3 7 (by decide) (index := 191) (ref := "ScaleHouse$Log") wd4 rfl (v := .int (D 7 i)) rfl dX9_habit_79 ?_
        refine lv_cgi (y := (nI (ck i))) (hc3) ?_
        refine lv_imul hx hb dX9_habit_82 ?_
        refine lv_cgi (y := (nI (ck i * ck i))) (by rw [pk_mul]) ?_
        refine lv_i2l hx hb dX9_habit_83 rfl ?_
        refine lv_cgl (y := (lN (ck i * ck i))) (nI_l (by omega)) ?_
        refine lv_ladd hx hb dX9_habit_84 ?_
        refine lv_cgl (y := (lN (b + ck i * ck i))) (lN_add _ _) ?_
        refine lv_lstore (lv' := [(5, .long (lN (b + ck i * ck i))), (3, .long (lN (a + rd i * ck i))), (8, .ref (lo i)), (0, .ref (ad 0)), (1, .int stick), (2, .int wh), (7, .int (nI i))]) hx hb dX9_habit_85 hl (by decide) rfl (fun ls hl => ?_)
        refine lv_iinc (v := nI (i + 1)) (lv' := [(7, .int (nI (i + 1))), (5, .long (lN (b + ck i * ck i))), (3, .long (lN (a + rd i * ck i))), (8, .ref (lo i)), (0, .ref (ad 0)), (1, .int stick), (2, .int wh)]) hx hb dX9_habit_87 hl (k := 6) rfl (nI_1 _) (by decide) rfl (fun ls hl => ?_)
        refine lv_goto (tgt := 28) hx hb dX9_habit_90 (by decide) ?_
        exact ih (i + 1) (a + rd i * ck i) (b + ck i * ck i) _ _ ls (by omega) (by rw [← hza, hSum, if_pos d52, Nat.add_assoc]) (by rw [← hzb, hSum, if_pos d52, Nat.add_assoc]) h (lv_sub hl [4, 5, 6, 2, 1, 0] rfl)

set_option maxHeartbeats 4000000 in
set_option maxRecDepth 100000 in
theorem h_habit (l : Launch) (G : gG) (ad : Nat → Nat) (ng nw : Nat) (lo : Nat → Nat) (D : Nat → Nat → Int32) (rd ck : Nat → Nat) (hng2 : ng ≤ 100) (hrc : hRc D rd ck ng) (stick wh : Int32) : cM l yX9_habit wsX9_habit 2 60 (0) (0) G [.ref (ad 0), .int stick, .int wh] ([((ad 0), .inr (9, [.ref (ad 1), .ref (ad 3), .ref (ad 8), .ref (ad 12), .ref (ad 13), .ref (ad 17), .ref (ad 18), .ref (ad 19), .ref (ad 20), .ref (ad 21), .ref (ad 25), .ref (ad 37), .int (nI ng), .int (nI nw)])), ((ad 18), .inl (G.2.2 5, 100, .inr (.inr (.inr (.inr (oA ng lo))))))] ++ (plG ng lo D)) (qL G (S := Unit) (fun r _ => r = hHab D rd ck ng stick wh) (fun _ => [((ad 0), .inr (9, [.ref (ad 1), .ref (ad 3), .ref (ad 8), .ref (ad 12), .ref (ad 13), .ref (ad 17), .ref (ad 18), .ref (ad 19), .ref (ad 20), .ref (ad 21), .ref (ad 25), .ref (ad 37), .int (nI ng), .int (nI nw)])), ((ad 18), .inl (G.2.2 5, 100, .inr (.inr (.inr (.inr (oA ng lo))))))] ++ (plG ng lo D))) := by
  refine o_M (cc := cX9_habit) (maxL := 9) (ret := (some .long)) (own := RX9) (by decide +kernel) rfl rfl (Nat.le_of_ble_eq_true rfl) ?_
  intro p e s m below meth c A ls H locs hA C h hr hlk hnm hl
  have hx := C.1.1.1
  have hb := C.1.1.2.1
  have hl : lv_has ls 9 [(0, .ref (ad 0)), (1, .int stick), (2, .int wh)] := hl
  have wd0 : Cond.constantLong RX9 194 (-1) ∈ wsX9_habit := by decide +kernel
  have hba := hSum_le (hQ D stick) (fun i => rd i * ck i) 9801 ng (fun i hi => sq_le (hrc i hi).2.1 (hrc i hi).2.2.2) ng 0 (Nat.zero_add _)
  have hbb := hSum_le (hQ D stick) (fun i => ck i * ck i) 9801 ng (fun i hi => sq_le (hrc i hi).2.2.2 (hrc i hi).2.2.2) ng 0 (Nat.zero_add _)
  have hgl : (Nat.gcd (hSum (hQ D stick) (fun i => ck i * ck i) ng 0) (hSum (hQ D stick) (fun i => rd i * ck i) ng 0)) ≤ (hSum (hQ D stick) (fun i => ck i * ck i) ng 0) + (hSum (hQ D stick) (fun i => rd i * ck i) ng 0) := by
    rcases Nat.eq_zero_or_pos (hSum (hQ D stick) (fun i => ck i * ck i) ng 0) with z | z
    · rw [z, Nat.gcd_zero_left]; omega
    · exact Nat.le_trans (Nat.le_of_dvd z (Nat.gcd_dvd_left _ _)) (Nat.le_add_right _ _)
  refine lv_iload_n hx hb dX9_habit_0 rfl (lv_at hl 1 rfl) ?_
  have hp : List.Perm ([((ad 0), .inr (9, [.ref (ad 1), .ref (ad 3), .ref (ad 8), .ref (ad 12), .ref (ad 13), .ref (ad 17), .ref (ad 18), .ref (ad 19), .ref (ad 20), .ref (ad 21), .ref (ad 25), .ref (ad 37), .int (nI ng), .int (nI nw)])), ((ad 18), .inl (G.2.2 5, 100, .inr (.inr (.inr (.inr (oA ng lo))))))] ++ (plG ng lo D) : va_W) ([] ++ ([((ad 0), .inr (9, [.ref (ad 1), .ref (ad 3), .ref (ad 8), .ref (ad 12), .ref (ad 13), .ref (ad 17), .ref (ad 18), .ref (ad 19), .ref (ad 20), .ref (ad 21), .ref (ad 25), .ref (ad 37), .int (nI ng), .int (nI nw)])), ((ad 18), .inl (G.2.2 5, 100, .inr (.inr (.inr (.inr (oA ng lo))))))] ++ (plG ng lo D))) := List.Perm.refl _
  refine k_i C h hp (r_runS C h hp (As := [.int stick]) (rest := []) (h_isStick l G stick) (va_cwS 1 C.1.1.2.2.2.2 gX9_habit_X9_isStick rfl rfl rfl (by decide +kernel) ⟨Nat.le_of_ble_eq_true rfl, Nat.le_of_ble_eq_true rfl⟩) rfl hl.1 (Nat.le_of_ble_eq_true rfl) dX9_habit_1 ⟨Nat.le_of_ble_eq_true rfl, Nat.le_of_ble_eq_true rfl⟩) (fun r_1 u_2 H locs hw_3 h => ?_)
  have h : gS G A s ([((ad 0), .inr (9, [.ref (ad 1), .ref (ad 3), .ref (ad 8), .ref (ad 12), .ref (ad 13), .ref (ad 17), .ref (ad 18), .ref (ad 19), .ref (ad 20), .ref (ad 21), .ref (ad 25), .ref (ad 37), .int (nI ng), .int (nI nw)])), ((ad 18), .inl (G.2.2 5, 100, .inr (.inr (.inr (.inr (oA ng lo))))))] ++ (plG ng lo D)) H locs := h
  refine W.widen (k := 0) (n := 0) (Nat.le_of_ble_eq_true rfl) (Nat.le_of_ble_eq_true rfl) ?_
  subst hw_3
  refine lv_if_eq (tgt := 16) hx hb dX9_habit_4 (by decide) (fun c_4 => ?_) (fun c_4 => ?_)
  · refine r_ldc2 C (v := -1) wd0 dX9_habit_16 ?_
    exact r_lret C h hr hlk (Nat.zero_le _) (Nat.zero_le _) () (by simp only [hHab, if_pos c_4]) (rfl) dX9_habit_19
  · refine lv_iload_n hx hb dX9_habit_7 rfl (lv_at hl 2 rfl) ?_
    refine lv_iconst (v := 0) hx hb dX9_habit_8 (by decide) ?_
    refine lv_iconst (v := 1) hx hb dX9_habit_9 (by decide) ?_
    have hp : List.Perm ([((ad 0), .inr (9, [.ref (ad 1), .ref (ad 3), .ref (ad 8), .ref (ad 12), .ref (ad 13), .ref (ad 17), .ref (ad 18), .ref (ad 19), .ref (ad 20), .ref (ad 21), .ref (ad 25), .ref (ad 37), .int (nI ng), .int (nI nw)])), ((ad 18), .inl (G.2.2 5, 100, .inr (.inr (.inr (.inr (oA ng lo))))))] ++ (plG ng lo D) : va_W) ([] ++ ([((ad 0), .inr (9, [.ref (ad 1), .ref (ad 3), .ref (ad 8), .ref (ad 12), .ref (ad 13), .ref (ad 17), .ref (ad 18), .ref (ad 19), .ref (ad 20), .ref (ad 21), .ref (ad 25), .ref (ad 37), .int (nI ng), .int (nI nw)])), ((ad 18), .inl (G.2.2 5, 100, .inr (.inr (.inr (.inr (oA ng lo))))))] ++ (plG ng lo D))) := List.Perm.refl _
    refine k_i C h hp (r_runS C h hp (As := [.int wh, .int 0, .int 1]) (rest := []) (h_within l G wh 0 1) (va_cwS 3 C.1.1.2.2.2.2 gX9_habit_X9_within rfl rfl rfl (by decide +kernel) ⟨Nat.le_of_ble_eq_true rfl, Nat.le_of_ble_eq_true rfl⟩) rfl hl.1 (Nat.le_of_ble_eq_true rfl) dX9_habit_10 ⟨Nat.le_of_ble_eq_true rfl, Nat.le_of_ble_eq_true rfl⟩) (fun r_4 u_5 H locs hw_6 h => ?_)
    have h : gS G A s ([((ad 0), .inr (9, [.ref (ad 1), .ref (ad 3), .ref (ad 8), .ref (ad 12), .ref (ad 13), .ref (ad 17), .ref (ad 18), .ref (ad 19), .ref (ad 20), .ref (ad 21), .ref (ad 25), .ref (ad 37), .int (nI ng), .int (nI nw)])), ((ad 18), .inl (G.2.2 5, 100, .inr (.inr (.inr (.inr (oA ng lo))))))] ++ (plG ng lo D)) H locs := h
    refine W.widen (k := 0) (n := 0) (Nat.le_of_ble_eq_true rfl) (Nat.le_of_ble_eq_true rfl) ?_
    subst hw_6
    refine lv_if_ne (tgt := 20) hx hb dX9_habit_13 (by decide) (fun c_13 => ?_) (fun c_13 => ?_)
    · refine lv_lconst (v := 0) hx hb dX9_habit_20 (by decide) ?_
      refine lv_cgl (y := (lN 0)) (rfl) ?_
      refine lv_lstore_n (lv' := [(3, .long (lN 0)), (0, .ref (ad 0)), (1, .int stick), (2, .int wh)]) hx hb dX9_habit_21 rfl hl (by decide) rfl (fun ls hl => ?_)
      refine lv_lconst (v := 0) hx hb dX9_habit_22 (by decide) ?_
      refine lv_cgl (y := (lN 0)) (rfl) ?_
      refine lv_lstore (lv' := [(5, .long (lN 0)), (3, .long (lN 0)), (0, .ref (ad 0)), (1, .int stick), (2, .int wh)]) hx hb dX9_habit_23 hl (by decide) rfl (fun ls hl => ?_)
      refine lv_iconst (v := 0) hx hb dX9_habit_25 (by decide) ?_
      refine lv_cgi (y := (nI 0)) (rfl) ?_
      refine lv_istore (lv' := [(7, .int (nI 0)), (5, .long (lN 0)), (3, .long (lN 0)), (0, .ref (ad 0)), (1, .int stick), (2, .int wh)]) hx hb dX9_habit_26 hl (by decide) rfl (fun ls hl => ?_)
      refine lp_X9_habit C ad ng nw lo D rd ck hng2 hrc stick wh (hSum (hQ D stick) (fun i => rd i * ck i) ng 0) (hSum (hQ D stick) (fun i => ck i * ck i) ng 0) (fun H locs ls h hl => ?_) ng 0 0 0 _ _ ls (Nat.zero_add _) (Nat.zero_add _) (Nat.zero_add _) h (lv_sub hl [3, 4, 5, 2, 1, 0] rfl)
      refine lv_lload_n hx hb dX9_habit_93 rfl (lv_at hl 3 rfl) ?_
      refine lv_lload hx hb dX9_habit_94 (lv_at hl 4 rfl) ?_
      have hp : List.Perm ([((ad 0), .inr (9, [.ref (ad 1), .ref (ad 3), .ref (ad 8), .ref (ad 12), .ref (ad 13), .ref (ad 17), .ref (ad 18), .ref (ad 19), .ref (ad 20), .ref (ad 21), .ref (ad 25), .ref (ad 37), .int (nI ng), .int (nI nw)])), ((ad 18), .inl (G.2.2 5, 100, .inr (.inr (.inr (.inr (oA ng lo))))))] ++ (plG ng lo D) : va_W) ([] ++ ([((ad 0), .inr (9, [.ref (ad 1), .ref (ad 3), .ref (ad 8), .ref (ad 12), .ref (ad 13), .ref (ad 17), .ref (ad 18), .ref (ad 19), .ref (ad 20), .ref (ad 21), .ref (ad 25), .ref (ad 37), .int (nI ng), .int (nI nw)])), ((ad 18), .inl (G.2.2 5, 100, .inr (.inr (.inr (.inr (oA ng lo))))))] ++ (plG ng lo D))) := List.Perm.refl _
      refine k_l C h hp (r_runS C h hp (As := [.long (lN (hSum (hQ D stick) (fun i => rd i * ck i) ng 0)), .long (lN (hSum (hQ D stick) (fun i => ck i * ck i) ng 0))]) (rest := []) (h_gcd l G (hSum (hQ D stick) (fun i => rd i * ck i) ng 0) (hSum (hQ D stick) (fun i => ck i * ck i) ng 0) (by omega) (by omega)) (va_cwS 2 C.1.1.2.2.2.2 gX9_habit_X9_commonDivisor rfl rfl rfl (by decide +kernel) ⟨Nat.le_of_ble_eq_true rfl, Nat.le_of_ble_eq_true rfl⟩) rfl hl.1 (Nat.le_of_ble_eq_true rfl) dX9_habit_96 ⟨Nat.le_of_ble_eq_true rfl, Nat.le_of_ble_eq_true rfl⟩) (fun r_7 u_8 H locs hw_9 h => ?_)
      have h : gS G A s ([((ad 0), .inr (9, [.ref (ad 1), .ref (ad 3), .ref (ad 8), .ref (ad 12), .ref (ad 13), .ref (ad 17), .ref (ad 18), .ref (ad 19), .ref (ad 20), .ref (ad 21), .ref (ad 25), .ref (ad 37), .int (nI ng), .int (nI nw)])), ((ad 18), .inl (G.2.2 5, 100, .inr (.inr (.inr (.inr (oA ng lo))))))] ++ (plG ng lo D)) H locs := h
      refine W.widen (k := 0) (n := 0) (Nat.le_of_ble_eq_true rfl) (Nat.le_of_ble_eq_true rfl) ?_
      subst hw_9
      refine lv_lstore (lv' := [(7, .long (lN (Nat.gcd (hSum (hQ D stick) (fun i => ck i * ck i) ng 0) (hSum (hQ D stick) (fun i => rd i * ck i) ng 0)))), (0, .ref (ad 0)), (1, .int stick), (2, .int wh), (3, .long (lN (hSum (hQ D stick) (fun i => rd i * ck i) ng 0))), (5, .long (lN (hSum (hQ D stick) (fun i => ck i * ck i) ng 0)))]) hx hb dX9_habit_99 hl (by decide) rfl (fun ls hl => ?_)
      refine lv_lload hx hb dX9_habit_101 (lv_at hl 0 rfl) ?_
      refine lv_lconst (v := 0) hx hb dX9_habit_103 (by decide) ?_
      refine W.lcmp hx hb dX9_habit_104 ?_
      refine lv_if_ne (tgt := 112) hx hb dX9_habit_105 (by decide) (fun c_105 => ?_) (fun c_105 => ?_)
      · rw [lg_cmp_eq] at c_105
        have d105 : ¬ (Nat.gcd (hSum (hQ D stick) (fun i => ck i * ck i) ng 0) (hSum (hQ D stick) (fun i => rd i * ck i) ng 0)) = 0 := fun z9 => c_105 (by rw [z9]; rfl)
        refine lv_iload_n hx hb dX9_habit_112 rfl (lv_at hl 3 rfl) ?_
        refine lv_if_ne (tgt := 120) hx hb dX9_habit_113 (by decide) (fun c_113 => ?_) (fun c_113 => ?_)
        · refine lv_lload hx hb dX9_habit_120 (lv_at hl 5 rfl) ?_
          refine lv_lload hx hb dX9_habit_122 (lv_at hl 0 rfl) ?_
          refine lv_ldiv hx hb dX9_habit_124 (fun z9 => d105 ((pk_lEQ (b := 0) (by omega) (by decide)).mp z9)) ?_
          refine lv_cgl (y := (lN ((hSum (hQ D stick) (fun i => ck i * ck i) ng 0) / (Nat.gcd (hSum (hQ D stick) (fun i => ck i * ck i) ng 0) (hSum (hQ D stick) (fun i => rd i * ck i) ng 0))))) (pk_lDiv (by omega) (by omega) (by omega)) ?_
          exact r_lret C h hr hlk (Nat.zero_le _) (Nat.zero_le _) () (by simp only [hHab, if_neg c_4, if_neg c_13, if_neg d105, if_neg c_113]) (rfl) dX9_habit_125
        · refine lv_lload_n hx hb dX9_habit_116 rfl (lv_at hl 4 rfl) ?_
          refine lv_goto (tgt := 122) hx hb dX9_habit_117 (by decide) ?_
          refine lv_lload hx hb dX9_habit_122 (lv_at hl 0 rfl) ?_
          refine lv_ldiv hx hb dX9_habit_124 (fun z9 => d105 ((pk_lEQ (b := 0) (by omega) (by decide)).mp z9)) ?_
          refine lv_cgl (y := (lN ((hSum (hQ D stick) (fun i => rd i * ck i) ng 0) / (Nat.gcd (hSum (hQ D stick) (fun i => ck i * ck i) ng 0) (hSum (hQ D stick) (fun i => rd i * ck i) ng 0))))) (pk_lDiv (by omega) (by omega) (by omega)) ?_
          exact r_lret C h hr hlk (Nat.zero_le _) (Nat.zero_le _) () (by simp only [hHab, if_neg c_4, if_neg c_13, if_neg d105, if_pos c_113]) (rfl) dX9_habit_125
      · rw [lg_cmp_eq] at c_105
        have d105 : (Nat.gcd (hSum (hQ D stick) (fun i => ck i * ck i) ng 0) (hSum (hQ D stick) (fun i => rd i * ck i) ng 0)) = 0 := (pk_lEQ (b := 0) (by omega) (by decide)).mp c_105
        refine r_ldc2 C (v := -1) wd0 dX9_habit_108 ?_
        exact r_lret C h hr hlk (Nat.zero_le _) (Nat.zero_le _) () (by simp only [hHab, if_neg c_4, if_neg c_13, if_pos d105]) (rfl) dX9_habit_111
    · refine r_ldc2 C (v := -1) wd0 dX9_habit_16 ?_
      exact r_lret C h hr hlk (Nat.zero_le _) (Nat.zero_le _) () (by simp only [hHab, if_neg c_4, if_pos c_13]) (rfl) dX9_habit_19
