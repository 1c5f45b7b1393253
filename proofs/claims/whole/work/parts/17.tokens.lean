/-- a text's signs: numbers as they are, other signs below 0 -/
def tkF (f : Nat → Int32) : Nat → Nat → Nat → Int32 → (Nat → Int32) → (Nat → Int32) × Nat
  | 0, _, k, _, g => (g, k)
  | r + 1, i, k, b, g => if tDig (f i) = 0 then (if f i = 32 then tkF f r (i + 1) k 0 g else tkF f r (i + 1) (k + 1) 0 (upd g k (-(f i))))
    else if b = 0 then tkF f r (i + 1) (k + 1) 1 (upd g k (f i - 48)) else if 0 < k then tkF f r (i + 1) k b (upd g (k - 1) (g (k - 1) * 10 + f i - 48)) else tkF f r (i + 1) (k + 1) 1 (upd g k (f i - 48))
theorem tkF_le (f : Nat → Int32) : ∀ (r i k : Nat) (b : Int32) (g : Nat → Int32), (tkF f r i k b g).2 ≤ k + r
  | 0, _, k, _, _ => Nat.le_refl k
  | r + 1, i, k, b, g => by
    unfold tkF
    repeat' split
    all_goals first | exact Nat.le_trans (tkF_le f r _ _ _ _) (by omega)

set_option maxHeartbeats 4000000 in
set_option maxRecDepth 100000 in
theorem lp_X8_tokens {p : Program} {l : Launch} {e : Env} {s : State} {m : MethodId} {args : Array Value} {below : List Frame} {meth : Method} {c : Code} {Q : State → Prop} {G : gG} {A : Nat → Prop} (C : gC p m c cX8_tokens 6 s args wsX8_tokens RX8 G A) (h0 h1 ha n : Nat) (f : Nat → Int32) (z : (Nat → Int32) × Nat) (hn : n ≤ 120) (cells slots : Nat) (hR : cells ≤ 2 ∧ slots ≤ 240) (kx : ∀ (H : Heap) (locs : List Loc) (ls : Array Slot), gS G A s ([(h0, .inr (8, [.ref h1, .int (nI n)])), (h1, .inl (G.2.2 1, 120, .inl f)), (ha, .inl (G.2.2 1, n, .inl z.1))]) H locs → lv_has ls 6 [(1, .ref ha), (2, .int (nI z.2))] → W p l e (gR 2 100 2 240) s m args below meth c H locs cells slots Q (F0 m 110 ls [])) :
    ∀ (r : Nat) (i k : Nat) (b : Int32) (g : Nat → Int32) (H : Heap) (locs : List Loc) (ls : Array Slot), (i + r = n) → (k ≤ i) → (b = 0 ∨ b = 1) → (tkF f r i k b g = z) →  gS G A s ([(h0, .inr (8, [.ref h1, .int (nI n)])), (h1, .inl (G.2.2 1, 120, .inl f)), (ha, .inl (G.2.2 1, n, .inl g))]) H locs → lv_has ls 6 [(0, .ref h0), (1, .ref ha), (2, .int (nI k)), (3, .int b), (4, .int (nI i))] → W p l e (gR 2 100 2 240) s m args below meth c H locs cells slots Q (F0 m 14 ls []) := by
  have hx := C.1.1.1
  have hb := C.1.1.2.1
  have wd0 : Cond.fieldLink RX8 15 "ScaleHouse$Tape" "size" "I" ∈ wsX8_tokens := by decide +kernel
  have hinX8 : ∀ w ∈ wsX80, w ∈ wsX8_tokens := by decide +kernel
  have wd1 : Cond.fieldLink RX8 9 "ScaleHouse$Tape" "bytes" "[I" ∈ wsX8_tokens := by decide +kernel
  intro r
  induction r with
  | zero =>
    intro i k b g H locs ls hi hki hb2 hz h hl
    refine lv_iload hx hb dX8_tokens_14 (lv_at hl 4 rfl) ?_
    refine lv_aload_n hx hb dX8_tokens_16 rfl (lv_at hl 0 rfl) ?_
    refine r_get C h 0 rfl (Cn := RX8) (T := TX8) (N := 2) rfl hinX8 1 (by decide) (index := 15) (ref := "ScaleHouse$Tape") wd0 rfl (v := .int (nI n)) rfl dX8_tokens_17 ?_
    refine lv_icmp_ge (tgt := 110) hx hb dX8_tokens_20 (by decide) (fun c_20 => ?_) (fun c_20 => ?_)
    · subst hz
      exact kx _ _ ls h (lv_sub hl [1, 2] rfl)
    · exact absurd (by rw [show i = n by omega]; exact Int32.le_refl _) c_20
  | succ r ih =>
    intro i k b g H locs ls hi hki hb2 hz h hl
    refine lv_iload hx hb dX8_tokens_14 (lv_at hl 4 rfl) ?_
    refine lv_aload_n hx hb dX8_tokens_16 rfl (lv_at hl 0 rfl) ?_
    refine r_get C h 0 rfl (Cn := RX8) (T := TX8) (N := 2) rfl hinX8 1 (by decide) (index := 15) (ref := "ScaleHouse$Tape") wd0 rfl (v := .int (nI n)) rfl dX8_tokens_17 ?_
    refine lv_icmp_ge (tgt := 110) hx hb dX8_tokens_20 (by decide) (fun c_20 => ?_) (fun c_20 => ?_)
    · exact absurd c_20 (nI_ge (by omega) (by omega))
    · refine lv_aload_n hx hb dX8_tokens_23 rfl (lv_at hl 0 rfl) ?_
      refine r_get C h 0 rfl (Cn := RX8) (T := TX8) (N := 2) rfl hinX8 0 (by decide) (index := 9) (ref := "ScaleHouse$Tape") wd1 rfl (v := .ref h1) rfl dX8_tokens_24 ?_
      refine lv_iload hx hb dX8_tokens_27 (lv_at hl 4 rfl) ?_
      refine r_iald C h 1 rfl (i := (nI i)) (vp_in_nI (by omega) (by decide)) dX8_tokens_29 ?_
      refine lv_cgi (nn_at f (by omega)) ?_
      refine lv_istore (lv' := [(5, .int (f i)), (0, .ref h0), (1, .ref ha), (2, .int (nI k)), (3, .int b), (4, .int (nI i))]) hx hb dX8_tokens_30 hl (by decide) rfl (fun ls hl => ?_)
      refine lv_iload hx hb dX8_tokens_32 (lv_at hl 0 rfl) ?_
      have hp : List.Perm ([(h0, .inr (8, [.ref h1, .int (nI n)])), (h1, .inl (G.2.2 1, 120, .inl f)), (ha, .inl (G.2.2 1, n, .inl g))] : va_W) ([] ++ ([(h0, .inr (8, [.ref h1, .int (nI n)])), (h1, .inl (G.2.2 1, 120, .inl f)), (ha, .inl (G.2.2 1, n, .inl g))])) := List.Perm.refl _
      refine k_i C h hp (r_runS C h hp (As := [.int (f i)]) (rest := []) (t_isDigit l G (f i)) (va_cwS 1 C.1.1.2.2.2.2 gX8_tokens_X8_isDigit rfl rfl rfl (by decide +kernel) ⟨Nat.le_of_ble_eq_true rfl, Nat.le_of_ble_eq_true rfl⟩) rfl hl.1 (Nat.le_of_ble_eq_true rfl) dX8_tokens_34 ⟨by show cells + 0 ≤ 2; omega, by show slots + 0 ≤ 240; omega⟩) (fun r_1 u_2 H locs hw_3 h => ?_)
      have h : gS G A s ([(h0, .inr (8, [.ref h1, .int (nI n)])), (h1, .inl (G.2.2 1, 120, .inl f)), (ha, .inl (G.2.2 1, n, .inl g))]) H locs := h
      subst hw_3
      refine lv_if_ne (tgt := 61) hx hb dX8_tokens_37 (by decide) (fun c_37 => ?_) (fun c_37 => ?_)
      · refine lv_iload_n hx hb dX8_tokens_61 rfl (lv_at hl 4 rfl) ?_
        refine lv_if_eq (tgt := 91) hx hb dX8_tokens_62 (by decide) (fun c_62 => ?_) (fun c_62 => ?_)
        · refine lv_aload_n hx hb dX8_tokens_91 rfl (lv_at hl 2 rfl) ?_
          refine lv_iload_n hx hb dX8_tokens_92 rfl (lv_at hl 3 rfl) ?_
          refine lv_iload hx hb dX8_tokens_93 (lv_at hl 0 rfl) ?_
          refine lv_bipush (v := 48) hx hb dX8_tokens_95 (by decide) ?_
          refine lv_isub hx hb dX8_tokens_97 ?_
          refine r_iast C h 2 rfl (i := (nI k)) (vp_in_nI (by omega) (by omega)) dX8_tokens_98 (fun H locs h => ?_)
          have h : gS G A s ([(h0, .inr (8, [.ref h1, .int (nI n)])), (h1, .inl (G.2.2 1, 120, .inl f)), (ha, .inl (G.2.2 1, n, .inl (upd g (nI k).toNatClampNeg ((f i) - 48))))]) H locs := h
          rw [show (upd g (nI k).toNatClampNeg ((f i) - 48)) = (upd g k ((f i) - 48)) from nn_up g (by omega) _] at h
          have h : gS G A s ([(h0, .inr (8, [.ref h1, .int (nI n)])), (h1, .inl (G.2.2 1, 120, .inl f)), (ha, .inl (G.2.2 1, n, .inl (upd g k ((f i) - 48))))]) H locs := h
          refine lv_iinc (v := nI (k + 1)) (lv' := [(2, .int (nI (k + 1))), (5, .int (f i)), (0, .ref h0), (1, .ref ha), (3, .int b), (4, .int (nI i))]) hx hb dX8_tokens_99 hl (k := 3) rfl (nI_1 _) (by decide) rfl (fun ls hl => ?_)
          refine lv_iconst (v := 1) hx hb dX8_tokens_102 (by decide) ?_
          refine lv_istore_n (lv' := [(3, .int 1), (2, .int (nI (k + 1))), (5, .int (f i)), (0, .ref h0), (1, .ref ha), (4, .int (nI i))]) hx hb dX8_tokens_103 rfl hl (by decide) rfl (fun ls hl => ?_)
          refine lv_iinc (v := nI (i + 1)) (lv' := [(4, .int (nI (i + 1))), (3, .int 1), (2, .int (nI (k + 1))), (5, .int (f i)), (0, .ref h0), (1, .ref ha)]) hx hb dX8_tokens_104 hl (k := 5) rfl (nI_1 _) (by decide) rfl (fun ls hl => ?_)
          refine lv_goto (tgt := 14) hx hb dX8_tokens_107 (by decide) ?_
          exact ih (i + 1) (k + 1) 1 (upd g k ((f i) - 48)) _ _ ls (by omega) (by omega) (by decide) (by rw [← hz, tkF]; simp only [if_neg c_37, if_pos c_62]) h (lv_sub hl [4, 5, 2, 1, 0] rfl)
        · refine lv_iload_n hx hb dX8_tokens_65 rfl (lv_at hl 3 rfl) ?_
          refine lv_if_le (tgt := 91) hx hb dX8_tokens_66 (by decide) (fun c_66 => ?_) (fun c_66 => ?_)
          · have hk0 : ¬ 0 < k := fun z => nI_nle z (by omega) c_66
            refine lv_aload_n hx hb dX8_tokens_91 rfl (lv_at hl 2 rfl) ?_
            refine lv_iload_n hx hb dX8_tokens_92 rfl (lv_at hl 3 rfl) ?_
            refine lv_iload hx hb dX8_tokens_93 (lv_at hl 0 rfl) ?_
            refine lv_bipush (v := 48) hx hb dX8_tokens_95 (by decide) ?_
            refine lv_isub hx hb dX8_tokens_97 ?_
            refine r_iast C h 2 rfl (i := (nI k)) (vp_in_nI (by omega) (by omega)) dX8_tokens_98 (fun H locs h => ?_)
            have h : gS G A s ([(h0, .inr (8, [.ref h1, .int (nI n)])), (h1, .inl (G.2.2 1, 120, .inl f)), (ha, .inl (G.2.2 1, n, .inl (upd g (nI k).toNatClampNeg ((f i) - 48))))]) H locs := h
            rw [show (upd g (nI k).toNatClampNeg ((f i) - 48)) = (upd g k ((f i) - 48)) from nn_up g (by omega) _] at h
            have h : gS G A s ([(h0, .inr (8, [.ref h1, .int (nI n)])), (h1, .inl (G.2.2 1, 120, .inl f)), (ha, .inl (G.2.2 1, n, .inl (upd g k ((f i) - 48))))]) H locs := h
            refine lv_iinc (v := nI (k + 1)) (lv' := [(2, .int (nI (k + 1))), (5, .int (f i)), (0, .ref h0), (1, .ref ha), (3, .int b), (4, .int (nI i))]) hx hb dX8_tokens_99 hl (k := 3) rfl (nI_1 _) (by decide) rfl (fun ls hl => ?_)
            refine lv_iconst (v := 1) hx hb dX8_tokens_102 (by decide) ?_
            refine lv_istore_n (lv' := [(3, .int 1), (2, .int (nI (k + 1))), (5, .int (f i)), (0, .ref h0), (1, .ref ha), (4, .int (nI i))]) hx hb dX8_tokens_103 rfl hl (by decide) rfl (fun ls hl => ?_)
            refine lv_iinc (v := nI (i + 1)) (lv' := [(4, .int (nI (i + 1))), (3, .int 1), (2, .int (nI (k + 1))), (5, .int (f i)), (0, .ref h0), (1, .ref ha)]) hx hb dX8_tokens_104 hl (k := 5) rfl (nI_1 _) (by decide) rfl (fun ls hl => ?_)
            refine lv_goto (tgt := 14) hx hb dX8_tokens_107 (by decide) ?_
            exact ih (i + 1) (k + 1) 1 (upd g k ((f i) - 48)) _ _ ls (by omega) (by omega) (by decide) (by rw [← hz, tkF]; simp only [if_neg c_37, if_neg c_62, if_neg hk0]) h (lv_sub hl [4, 5, 2, 1, 0] rfl)
          · have hk0 : 0 < k := Nat.pos_of_ne_zero (fun z => c_66 (by rw [z]; decide))
            refine lv_aload_n hx hb dX8_tokens_69 rfl (lv_at hl 2 rfl) ?_
            refine lv_iload_n hx hb dX8_tokens_70 rfl (lv_at hl 3 rfl) ?_
            refine lv_iconst (v := 1) hx hb dX8_tokens_71 (by decide) ?_
            refine lv_isub hx hb dX8_tokens_72 ?_
            refine lv_cgi (y := (nI (k - 1))) (by rw [show (1 : Int32) = nI 1 from rfl, pk_sub (by omega)]) ?_
            refine lv_aload_n hx hb dX8_tokens_73 rfl (lv_at hl 2 rfl) ?_
            refine lv_iload_n hx hb dX8_tokens_74 rfl (lv_at hl 3 rfl) ?_
            refine lv_iconst (v := 1) hx hb dX8_tokens_75 (by decide) ?_
            refine lv_isub hx hb dX8_tokens_76 ?_
            refine lv_cgi (y := (nI (k - 1))) (by rw [show (1 : Int32) = nI 1 from rfl, pk_sub (by omega)]) ?_
            refine r_iald C h 2 rfl (i := (nI (k - 1))) (vp_in_nI (by omega) (by omega)) dX8_tokens_77 ?_
            refine lv_cgi (nn_at g (by omega)) ?_
            refine lv_bipush (v := 10) hx hb dX8_tokens_78 (by decide) ?_
            refine lv_imul hx hb dX8_tokens_80 ?_
            refine lv_iload hx hb dX8_tokens_81 (lv_at hl 0 rfl) ?_
            refine lv_iadd hx hb dX8_tokens_83 ?_
            refine lv_bipush (v := 48) hx hb dX8_tokens_84 (by decide) ?_
            refine lv_isub hx hb dX8_tokens_86 ?_
            refine r_iast C h 2 rfl (i := (nI (k - 1))) (vp_in_nI (by omega) (by omega)) dX8_tokens_87 (fun H locs h => ?_)
            have h : gS G A s ([(h0, .inr (8, [.ref h1, .int (nI n)])), (h1, .inl (G.2.2 1, 120, .inl f)), (ha, .inl (G.2.2 1, n, .inl (upd g (nI (k - 1)).toNatClampNeg ((((g (k - 1)) * 10) + (f i)) - 48))))]) H locs := h
            rw [show (upd g (nI (k - 1)).toNatClampNeg ((((g (k - 1)) * 10) + (f i)) - 48)) = (upd g (k - 1) (((g (k - 1)) * 10 + (f i)) - 48)) from nn_up g (by omega) _] at h
            have h : gS G A s ([(h0, .inr (8, [.ref h1, .int (nI n)])), (h1, .inl (G.2.2 1, 120, .inl f)), (ha, .inl (G.2.2 1, n, .inl (upd g (k - 1) (((g (k - 1)) * 10 + (f i)) - 48))))]) H locs := h
            refine lv_goto (tgt := 104) hx hb dX8_tokens_88 (by decide) ?_
            refine lv_iinc (v := nI (i + 1)) (lv' := [(4, .int (nI (i + 1))), (5, .int (f i)), (0, .ref h0), (1, .ref ha), (2, .int (nI k)), (3, .int b)]) hx hb dX8_tokens_104 hl (k := 5) rfl (nI_1 _) (by decide) rfl (fun ls hl => ?_)
            refine lv_goto (tgt := 14) hx hb dX8_tokens_107 (by decide) ?_
            exact ih (i + 1) k b (upd g (k - 1) (((g (k - 1)) * 10 + (f i)) - 48)) _ _ ls (by omega) (by omega) (by exact hb2) (by rw [← hz, tkF]; simp only [if_neg c_37, if_neg c_62, if_pos hk0]) h (lv_sub hl [2, 3, 4, 5, 0] rfl)
      · refine lv_iconst (v := 0) hx hb dX8_tokens_40 (by decide) ?_
        refine lv_istore_n (lv' := [(3, .int 0), (5, .int (f i)), (0, .ref h0), (1, .ref ha), (2, .int (nI k)), (4, .int (nI i))]) hx hb dX8_tokens_41 rfl hl (by decide) rfl (fun ls hl => ?_)
        refine lv_iload hx hb dX8_tokens_42 (lv_at hl 1 rfl) ?_
        refine lv_bipush (v := 32) hx hb dX8_tokens_44 (by decide) ?_
        refine lv_icmp_eq (tgt := 104) hx hb dX8_tokens_46 (by decide) (fun c_46 => ?_) (fun c_46 => ?_)
        · refine lv_iinc (v := nI (i + 1)) (lv' := [(4, .int (nI (i + 1))), (3, .int 0), (5, .int (f i)), (0, .ref h0), (1, .ref ha), (2, .int (nI k))]) hx hb dX8_tokens_104 hl (k := 5) rfl (nI_1 _) (by decide) rfl (fun ls hl => ?_)
          refine lv_goto (tgt := 14) hx hb dX8_tokens_107 (by decide) ?_
          exact ih (i + 1) k 0 g _ _ ls (by omega) (by omega) (by decide) (by rw [← hz, tkF]; simp only [if_pos c_37, if_pos c_46]) h (lv_sub hl [3, 4, 5, 1, 0] rfl)
        · refine lv_aload_n hx hb dX8_tokens_49 rfl (lv_at hl 3 rfl) ?_
          refine lv_iload_n hx hb dX8_tokens_50 rfl (lv_at hl 4 rfl) ?_
          refine lv_iload hx hb dX8_tokens_51 (lv_at hl 1 rfl) ?_
          refine lv_ineg hx hb dX8_tokens_53 ?_
          refine r_iast C h 2 rfl (i := (nI k)) (vp_in_nI (by omega) (by omega)) dX8_tokens_54 (fun H locs h => ?_)
          have h : gS G A s ([(h0, .inr (8, [.ref h1, .int (nI n)])), (h1, .inl (G.2.2 1, 120, .inl f)), (ha, .inl (G.2.2 1, n, .inl (upd g (nI k).toNatClampNeg (-(f i)))))]) H locs := h
          rw [show (upd g (nI k).toNatClampNeg (-(f i))) = (upd g k (-(f i))) from nn_up g (by omega) _] at h
          have h : gS G A s ([(h0, .inr (8, [.ref h1, .int (nI n)])), (h1, .inl (G.2.2 1, 120, .inl f)), (ha, .inl (G.2.2 1, n, .inl (upd g k (-(f i)))))]) H locs := h
          refine lv_iinc (v := nI (k + 1)) (lv' := [(2, .int (nI (k + 1))), (3, .int 0), (5, .int (f i)), (0, .ref h0), (1, .ref ha), (4, .int (nI i))]) hx hb dX8_tokens_55 hl (k := 4) rfl (nI_1 _) (by decide) rfl (fun ls hl => ?_)
          refine lv_goto (tgt := 104) hx hb dX8_tokens_58 (by decide) ?_
          refine lv_iinc (v := nI (i + 1)) (lv' := [(4, .int (nI (i + 1))), (2, .int (nI (k + 1))), (3, .int 0), (5, .int (f i)), (0, .ref h0), (1, .ref ha)]) hx hb dX8_tokens_104 hl (k := 5) rfl (nI_1 _) (by decide) rfl (fun ls hl => ?_)
          refine lv_goto (tgt := 14) hx hb dX8_tokens_107 (by decide) ?_
          exact ih (i + 1) (k + 1) 0 (upd g k (-(f i))) _ _ ls (by omega) (by omega) (by decide) (by rw [← hz, tkF]; simp only [if_pos c_37, if_neg c_46]) h (lv_sub hl [4, 5, 1, 2, 0] rfl)

set_option maxHeartbeats 4000000 in
set_option maxRecDepth 100000 in
theorem t_tokens (l : Launch) (G : gG) (h0 h1 : Nat) (n : Nat) (f : Nat → Int32) (hn : n ≤ 120) : cM l yX8_tokens wsX8_tokens 2 100 (2) (240) G [.ref h0] ([(h0, .inr (8, [.ref h1, .int (nI n)])), (h1, .inl (G.2.2 1, 120, .inl f))]) (qR G (S := Nat → Int32) (fun g => ∀ j, j < (tkF f n 0 0 0 (fun _ => 0)).2 → g j = (tkF f n 0 0 0 (fun _ => 0)).1 j) (fun g q => [(h0, .inr (8, [.ref h1, .int (nI n)])), (h1, .inl (G.2.2 1, 120, .inl f)), (q, .inl (G.2.2 1, (tkF f n 0 0 0 (fun _ => 0)).2, .inl g))])) := by
  refine o_M (cc := cX8_tokens) (maxL := 6) (ret := (some (.array .int))) (own := RX8) (by decide +kernel) rfl rfl (Nat.le_of_ble_eq_true rfl) ?_
  intro p e s m below meth c A ls H locs hA C h hr hlk hnm hl
  have hx := C.1.1.1
  have hb := C.1.1.2.1
  have hl : lv_has ls 6 [(0, .ref h0)] := hl
  have wd0 : Cond.fieldLink RX8 15 "ScaleHouse$Tape" "size" "I" ∈ wsX8_tokens := by decide +kernel
  have hinX8 : ∀ w ∈ wsX80, w ∈ wsX8_tokens := by decide +kernel
  have wd1 : Cond.arrayClass .int ∈ wsX8_tokens := by decide +kernel
  refine lv_aload_n hx hb dX8_tokens_0 rfl (lv_at hl 0 rfl) ?_
  refine r_get C h 0 rfl (Cn := RX8) (T := TX8) (N := 2) rfl hinX8 1 (by decide) (index := 15) (ref := "ScaleHouse$Tape") wd0 rfl (v := .int (nI n)) rfl dX8_tokens_1 ?_
  refine r_newa C h (ty := .int) rfl 1 (cA := G.2.2 1) rfl (fun z => z) wd1 (n := (nI n)) (N' := n) (a0 := (n, .inl (fun _ => 0))) (fun _ => rfl) (nI_pos (by omega)) (nI_clamp (by omega)) (by show n * 4 ≤ _; omega) (by decide) (by show _ ≤ 240; omega) dX8_tokens_4 (fun q4 H h => ?_)
  have h : gS G A s ([(h0, .inr (8, [.ref h1, .int (nI n)])), (h1, .inl (G.2.2 1, 120, .inl f)), (q4, .inl (G.2.2 1, n, .inl (fun _ => 0)))]) H locs := h
  refine lv_astore_n (lv' := [(1, .ref q4), (0, .ref h0)]) hx hb dX8_tokens_6 rfl hl (by decide) rfl (fun ls hl => ?_)
  refine lv_iconst (v := 0) hx hb dX8_tokens_7 (by decide) ?_
  refine lv_istore_n (lv' := [(2, .int 0), (1, .ref q4), (0, .ref h0)]) hx hb dX8_tokens_8 rfl hl (by decide) rfl (fun ls hl => ?_)
  refine lv_iconst (v := 0) hx hb dX8_tokens_9 (by decide) ?_
  refine lv_istore_n (lv' := [(3, .int 0), (2, .int 0), (1, .ref q4), (0, .ref h0)]) hx hb dX8_tokens_10 rfl hl (by decide) rfl (fun ls hl => ?_)
  refine lv_iconst (v := 0) hx hb dX8_tokens_11 (by decide) ?_
  refine lv_istore (lv' := [(4, .int 0), (3, .int 0), (2, .int 0), (1, .ref q4), (0, .ref h0)]) hx hb dX8_tokens_12 hl (by decide) rfl (fun ls hl => ?_)
  have hle := tkF_le f n 0 0 0 (fun _ => 0)
  refine W.widen (k := 1) (n := n) (by omega) (by omega) ?_
  refine lp_X8_tokens C h0 h1 q4 n f (tkF f n 0 0 0 (fun _ => 0)) hn 1 n (by omega) (fun H locs ls h hl => ?_) n 0 0 0 _ _ _ ls (by omega) (by omega) (by decide) rfl h (lv_sub hl [4, 3, 2, 1, 0] rfl)
  generalize hzz : tkF f n 0 0 0 (fun _ => 0) = z at h hl hle ⊢
  refine lv_aload_n hx hb dX8_tokens_110 rfl (lv_at hl 0 rfl) ?_
  refine lv_iload_n hx hb dX8_tokens_111 rfl (lv_at hl 1 rfl) ?_
  have hp : List.Perm ([(h0, .inr (8, [.ref h1, .int (nI n)])), (h1, .inl (G.2.2 1, 120, .inl f)), (q4, .inl (G.2.2 1, n, .inl z.1))] : va_W) ([(q4, .inl (G.2.2 1, n, .inl z.1))] ++ [(h0, .inr (8, [.ref h1, .int (nI n)])), (h1, .inl (G.2.2 1, 120, .inl f))]) := pm 3 rfl [2, 0, 1] (by decide +kernel) rfl
  refine k_r C h hp (r_runS C h hp (As := [.ref q4, .int (nI z.2)]) (rest := []) (j_copyOf l G q4 n z.2 z.1 (by omega) (by omega)) (va_cwS 2 C.1.1.2.2.2.2 gX8_tokens_J7_copyOf_59c91 rfl rfl rfl (by decide +kernel) ⟨Nat.le_of_ble_eq_true rfl, Nat.le_of_ble_eq_true rfl⟩) rfl hl.1 (Nat.le_of_ble_eq_true rfl) dX8_tokens_112 ⟨by show _ ≤ 2; omega, by show _ ≤ 240; omega⟩) (fun g9 q H locs hg9 h => ?_)
  have h : gS G A s ([(q4, .inl (G.2.2 1, n, .inl z.1)), (q, .inl (G.2.2 1, z.2, .inl g9))] ++ [(h0, .inr (8, [.ref h1, .int (nI n)])), (h1, .inl (G.2.2 1, 120, .inl f))]) H locs := h
  have h := gS.perm h (pm 4 rfl [2, 3, 0, 1] (by decide +kernel) rfl : List.Perm ([(q4, .inl (G.2.2 1, n, .inl z.1)), (q, .inl (G.2.2 1, z.2, .inl g9))] ++ [(h0, .inr (8, [.ref h1, .int (nI n)])), (h1, .inl (G.2.2 1, 120, .inl f))] : va_W) ([(h0, .inr (8, [.ref h1, .int (nI n)])), (h1, .inl (G.2.2 1, 120, .inl f)), (q4, .inl (G.2.2 1, n, .inl z.1)), (q, .inl (G.2.2 1, z.2, .inl g9))]))
  have h : gS G A s ([(h0, .inr (8, [.ref h1, .int (nI n)])), (h1, .inl (G.2.2 1, 120, .inl f)), (q4, .inl (G.2.2 1, n, .inl z.1)), (q, .inl (G.2.2 1, z.2, .inl g9))]) H locs := h
  have h := gS.keep (wc := [(h0, .inr (8, [.ref h1, .int (nI n)])), (h1, .inl (G.2.2 1, 120, .inl f)), (q, .inl (G.2.2 1, z.2, .inl g9))]) (wr := [(q4, .inl (G.2.2 1, n, .inl z.1))]) h (pm 4 rfl [0, 1, 3, 2] (by decide +kernel) rfl)
  exact r_aret C h hr (Or.inr ⟨_, rfl⟩) hlk (by omega) (by omega) g9 (fun j hj => hg9 j (by omega) hj) (rfl) dX8_tokens_115
