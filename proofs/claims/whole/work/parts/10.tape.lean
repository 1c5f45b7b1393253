/-! ===== ScaleHouse$Tape: what its methods answer ===== -/
/-- the byte at a shift -/
def tB (v x : Int32) : Int32 := (v.toUInt32 >>> (x.toUInt32 &&& Int32.toUInt32 31)).toInt32 &&& 255
def tIn (v : Int32) : Nat → Int32 → Int32
  | 0, a => a
  | k + 1, a => tIn v k (if tB v (nI (8 * k)) = 0 then a else a + 1)
def tAp (v : Int32) : Nat → (Nat → Int32) → Nat → (Nat → Int32) × Nat
  | 0, f, n => (f, n)
  | k + 1, f, n => if tB v (nI (8 * k)) = 0 then tAp v k f n else if n < 120 then tAp v k (upd f n (tB v (nI (8 * k)))) (n + 1) else tAp v k f n
theorem tAp_le (v : Int32) : ∀ (k : Nat) (f : Nat → Int32) (n : Nat), n ≤ 120 → (tAp v k f n).2 ≤ 120
  | 0, _, _, h => h
  | k + 1, f, n, h => by
    unfold tAp
    split
    · exact tAp_le v k f n h
    · split
      · exact tAp_le v k _ _ (by omega)
      · exact tAp_le v k f n h
def tDig (x : Int32) : Int32 := if x < 48 then 0 else if 57 < x then 0 else 1
def tFits (x w d : Int32) : Int32 := if x = 40 then (if w = 0 then 0 else if 8 ≤ d then 0 else 1) else if x = 41 then (if w = 0 then (if d ≤ 0 then 0 else 1) else 0) else if x = 42 then (if w = 0 then 1 else 0) else if x = 43 then (if w = 0 then 1 else 0) else if x = 45 then (if w = 0 then 1 else 0) else if x = 47 then (if w = 0 then 1 else 0) else if x = 100 then w else if x = 108 then w else 0
def tFf (f : Nat → Int32) (n : Nat) : Nat → Nat → Int32 → Int32 → Int32 → Int32
  | 0, _, w, d, _ => if w = 0 then (if d ≤ 0 then -1 else nI n) else nI n
  | r + 1, i, w, d, g => if tDig (f i) = 0 then (if f i = 32 then tFf f n r (i + 1) w d 0 else if tFits (f i) w d = 0 then nI i else if f i = 40 then tFf f n r (i + 1) w (d + 1) 0 else if f i = 41 then tFf f n r (i + 1) w (d + (-1)) 0 else if w = 0 then tFf f n r (i + 1) 1 d 0 else tFf f n r (i + 1) 0 d 0)
    else if w = 0 then (if g = 0 then nI i else if g = 5 then nI i else tFf f n r (i + 1) 0 d (g + 1)) else tFf f n r (i + 1) 0 d (g + 1)
/-- the shift at the head of a loop from k bytes down -/
theorem sh_neg {x : Int32} (h : x = nI (8 * 0) - 8) : x < 0 := by rw [h]; decide
theorem sh_pos {x : Int32} {k : Nat} (hk : k + 1 ≤ 4) (h : x = nI (8 * (k + 1)) - 8) : x = nI (8 * k) ∧ ¬ x < 0 := by
  have e : x = nI (8 * k) := by rw [h, show (8 : Int32) = nI 8 from rfl, pk_sub (by omega), show 8 * (k + 1) - 8 = 8 * k by omega]
  exact ⟨e, by rw [e]; exact nI_pos (by omega)⟩
theorem sh_dn {k : Nat} : nI (8 * k) + (-8) = nI (8 * k) - 8 := by rw [Int32.sub_eq_add_neg]

set_option maxHeartbeats 4000000 in
set_option maxRecDepth 100000 in
theorem t_isDigit (l : Launch) (G : gG) (x : Int32) : cM l yX8_isDigit wsX8_isDigit 0 0 (0) (0) G [.int x] ([]) (qI G (S := Unit) (fun r _ => r = tDig x) (fun _ => [])) := by
  refine o_M (cc := cX8_isDigit) (maxL := 1) (ret := (some .boolean)) (own := RX8) (by decide +kernel) rfl rfl (Nat.le_of_ble_eq_true rfl) ?_
  intro p e s m below meth c A ls H locs hA C h hr hlk hnm hl
  have hx := C.1.1.1
  have hb := C.1.1.2.1
  have hl : lv_has ls 1 [(0, .int x)] := hl
  refine lv_iload_n hx hb dX8_isDigit_0 rfl (lv_at hl 0 rfl) ?_
  refine lv_bipush (v := 48) hx hb dX8_isDigit_1 (by decide) ?_
  refine lv_icmp_lt (tgt := 16) hx hb dX8_isDigit_3 (by decide) (fun c_3 => ?_) (fun c_3 => ?_)
  · refine lv_iconst (v := 0) hx hb dX8_isDigit_16 (by decide) ?_
    exact r_zret C h hr hlk (Nat.zero_le _) (Nat.zero_le _) (Or.inl rfl) () (by simp only [tDig, if_pos c_3]) (rfl) dX8_isDigit_17
  · refine lv_iload_n hx hb dX8_isDigit_6 rfl (lv_at hl 0 rfl) ?_
    refine lv_bipush (v := 57) hx hb dX8_isDigit_7 (by decide) ?_
    refine lv_icmp_gt (tgt := 16) hx hb dX8_isDigit_9 (by decide) (fun c_9 => ?_) (fun c_9 => ?_)
    · refine lv_iconst (v := 0) hx hb dX8_isDigit_16 (by decide) ?_
      exact r_zret C h hr hlk (Nat.zero_le _) (Nat.zero_le _) (Or.inl rfl) () (by simp only [tDig, if_neg c_3, if_pos c_9]) (rfl) dX8_isDigit_17
    · refine lv_iconst (v := 1) hx hb dX8_isDigit_12 (by decide) ?_
      refine lv_goto (tgt := 17) hx hb dX8_isDigit_13 (by decide) ?_
      exact r_zret C h hr hlk (Nat.zero_le _) (Nat.zero_le _) (Or.inr rfl) () (by simp only [tDig, if_neg c_3, if_neg c_9]) (rfl) dX8_isDigit_17

set_option maxHeartbeats 4000000 in
set_option maxRecDepth 100000 in
theorem t_fits (l : Launch) (G : gG) (x w d : Int32) (hw : w = 0 ∨ w = 1) : cM l yX8_fits wsX8_fits 0 0 (0) (0) G [.int x, .int w, .int d] ([]) (qI G (S := Unit) (fun r _ => r = tFits x w d) (fun _ => [])) := by
  refine o_M (cc := cX8_fits) (maxL := 3) (ret := (some .boolean)) (own := RX8) (by decide +kernel) rfl rfl (Nat.le_of_ble_eq_true rfl) ?_
  intro p e s m below meth c A ls H locs hA C h hr hlk hnm hl
  have hx := C.1.1.1
  have hb := C.1.1.2.1
  have hl : lv_has ls 3 [(0, .int x), (1, .int w), (2, .int d)] := hl
  refine lv_iload_n hx hb dX8_fits_0 rfl (lv_at hl 0 rfl) ?_
  by_cases c_1_40 : x = 40
  · refine lv_lookup (off := 77) (tgt := 78) hx hb dX8_fits_1 (by decide) (by rw [c_1_40]; decide) (by decide) ?_
    refine lv_iload_n hx hb dX8_fits_78 rfl (lv_at hl 1 rfl) ?_
    refine lv_if_eq (tgt := 92) hx hb dX8_fits_79 (by decide) (fun c_79 => ?_) (fun c_79 => ?_)
    · refine lv_iconst (v := 0) hx hb dX8_fits_92 (by decide) ?_
      exact r_zret C h hr hlk (Nat.zero_le _) (Nat.zero_le _) (Or.inl rfl) () (by simp only [tFits, if_pos c_1_40, if_pos c_79]) (rfl) dX8_fits_93
    · refine lv_iload_n hx hb dX8_fits_82 rfl (lv_at hl 2 rfl) ?_
      refine lv_bipush (v := 8) hx hb dX8_fits_83 (by decide) ?_
      refine lv_icmp_ge (tgt := 92) hx hb dX8_fits_85 (by decide) (fun c_85 => ?_) (fun c_85 => ?_)
      · refine lv_iconst (v := 0) hx hb dX8_fits_92 (by decide) ?_
        exact r_zret C h hr hlk (Nat.zero_le _) (Nat.zero_le _) (Or.inl rfl) () (by simp only [tFits, if_pos c_1_40, if_neg c_79, if_pos c_85]) (rfl) dX8_fits_93
      · refine lv_iconst (v := 1) hx hb dX8_fits_88 (by decide) ?_
        refine lv_goto (tgt := 93) hx hb dX8_fits_89 (by decide) ?_
        exact r_zret C h hr hlk (Nat.zero_le _) (Nat.zero_le _) (Or.inr rfl) () (by simp only [tFits, if_pos c_1_40, if_neg c_79, if_neg c_85]) (rfl) dX8_fits_93
  by_cases c_1_41 : x = 41
  · refine lv_lookup (off := 93) (tgt := 94) hx hb dX8_fits_1 (by decide) (by rw [c_1_41]; decide) (by decide) ?_
    refine lv_iload_n hx hb dX8_fits_94 rfl (lv_at hl 1 rfl) ?_
    refine lv_if_ne (tgt := 106) hx hb dX8_fits_95 (by decide) (fun c_95 => ?_) (fun c_95 => ?_)
    · refine lv_iconst (v := 0) hx hb dX8_fits_106 (by decide) ?_
      exact r_zret C h hr hlk (Nat.zero_le _) (Nat.zero_le _) (Or.inl rfl) () (by simp only [tFits, if_neg c_1_40, if_pos c_1_41, if_neg c_95]) (rfl) dX8_fits_107
    · refine lv_iload_n hx hb dX8_fits_98 rfl (lv_at hl 2 rfl) ?_
      refine lv_if_le (tgt := 106) hx hb dX8_fits_99 (by decide) (fun c_99 => ?_) (fun c_99 => ?_)
      · refine lv_iconst (v := 0) hx hb dX8_fits_106 (by decide) ?_
        exact r_zret C h hr hlk (Nat.zero_le _) (Nat.zero_le _) (Or.inl rfl) () (by simp only [tFits, if_neg c_1_40, if_pos c_1_41, if_pos c_95, if_pos c_99]) (rfl) dX8_fits_107
      · refine lv_iconst (v := 1) hx hb dX8_fits_102 (by decide) ?_
        refine lv_goto (tgt := 107) hx hb dX8_fits_103 (by decide) ?_
        exact r_zret C h hr hlk (Nat.zero_le _) (Nat.zero_le _) (Or.inr rfl) () (by simp only [tFits, if_neg c_1_40, if_pos c_1_41, if_pos c_95, if_neg c_99]) (rfl) dX8_fits_107
  by_cases c_1_42 : x = 42
  · refine lv_lookup (off := 107) (tgt := 108) hx hb dX8_fits_1 (by decide) (by rw [c_1_42]; decide) (by decide) ?_
    refine lv_iload_n hx hb dX8_fits_108 rfl (lv_at hl 1 rfl) ?_
    refine lv_if_ne (tgt := 116) hx hb dX8_fits_109 (by decide) (fun c_109 => ?_) (fun c_109 => ?_)
    · refine lv_iconst (v := 0) hx hb dX8_fits_116 (by decide) ?_
      exact r_zret C h hr hlk (Nat.zero_le _) (Nat.zero_le _) (Or.inl rfl) () (by simp only [tFits, if_neg c_1_40, if_neg c_1_41, if_pos c_1_42, if_neg c_109]) (rfl) dX8_fits_117
    · refine lv_iconst (v := 1) hx hb dX8_fits_112 (by decide) ?_
      refine lv_goto (tgt := 117) hx hb dX8_fits_113 (by decide) ?_
      exact r_zret C h hr hlk (Nat.zero_le _) (Nat.zero_le _) (Or.inr rfl) () (by simp only [tFits, if_neg c_1_40, if_neg c_1_41, if_pos c_1_42, if_pos c_109]) (rfl) dX8_fits_117
  by_cases c_1_43 : x = 43
  · refine lv_lookup (off := 107) (tgt := 108) hx hb dX8_fits_1 (by decide) (by rw [c_1_43]; decide) (by decide) ?_
    refine lv_iload_n hx hb dX8_fits_108 rfl (lv_at hl 1 rfl) ?_
    refine lv_if_ne (tgt := 116) hx hb dX8_fits_109 (by decide) (fun c_109 => ?_) (fun c_109 => ?_)
    · refine lv_iconst (v := 0) hx hb dX8_fits_116 (by decide) ?_
      exact r_zret C h hr hlk (Nat.zero_le _) (Nat.zero_le _) (Or.inl rfl) () (by simp only [tFits, if_neg c_1_40, if_neg c_1_41, if_neg c_1_42, if_pos c_1_43, if_neg c_109]) (rfl) dX8_fits_117
    · refine lv_iconst (v := 1) hx hb dX8_fits_112 (by decide) ?_
      refine lv_goto (tgt := 117) hx hb dX8_fits_113 (by decide) ?_
      exact r_zret C h hr hlk (Nat.zero_le _) (Nat.zero_le _) (Or.inr rfl) () (by simp only [tFits, if_neg c_1_40, if_neg c_1_41, if_neg c_1_42, if_pos c_1_43, if_pos c_109]) (rfl) dX8_fits_117
  by_cases c_1_45 : x = 45
  · refine lv_lookup (off := 107) (tgt := 108) hx hb dX8_fits_1 (by decide) (by rw [c_1_45]; decide) (by decide) ?_
    refine lv_iload_n hx hb dX8_fits_108 rfl (lv_at hl 1 rfl) ?_
    refine lv_if_ne (tgt := 116) hx hb dX8_fits_109 (by decide) (fun c_109 => ?_) (fun c_109 => ?_)
    · refine lv_iconst (v := 0) hx hb dX8_fits_116 (by decide) ?_
      exact r_zret C h hr hlk (Nat.zero_le _) (Nat.zero_le _) (Or.inl rfl) () (by simp only [tFits, if_neg c_1_40, if_neg c_1_41, if_neg c_1_42, if_neg c_1_43, if_pos c_1_45, if_neg c_109]) (rfl) dX8_fits_117
    · refine lv_iconst (v := 1) hx hb dX8_fits_112 (by decide) ?_
      refine lv_goto (tgt := 117) hx hb dX8_fits_113 (by decide) ?_
      exact r_zret C h hr hlk (Nat.zero_le _) (Nat.zero_le _) (Or.inr rfl) () (by simp only [tFits, if_neg c_1_40, if_neg c_1_41, if_neg c_1_42, if_neg c_1_43, if_pos c_1_45, if_pos c_109]) (rfl) dX8_fits_117
  by_cases c_1_47 : x = 47
  · refine lv_lookup (off := 107) (tgt := 108) hx hb dX8_fits_1 (by decide) (by rw [c_1_47]; decide) (by decide) ?_
    refine lv_iload_n hx hb dX8_fits_108 rfl (lv_at hl 1 rfl) ?_
    refine lv_if_ne (tgt := 116) hx hb dX8_fits_109 (by decide) (fun c_109 => ?_) (fun c_109 => ?_)
    · refine lv_iconst (v := 0) hx hb dX8_fits_116 (by decide) ?_
      exact r_zret C h hr hlk (Nat.zero_le _) (Nat.zero_le _) (Or.inl rfl) () (by simp only [tFits, if_neg c_1_40, if_neg c_1_41, if_neg c_1_42, if_neg c_1_43, if_neg c_1_45, if_pos c_1_47, if_neg c_109]) (rfl) dX8_fits_117
    · refine lv_iconst (v := 1) hx hb dX8_fits_112 (by decide) ?_
      refine lv_goto (tgt := 117) hx hb dX8_fits_113 (by decide) ?_
      exact r_zret C h hr hlk (Nat.zero_le _) (Nat.zero_le _) (Or.inr rfl) () (by simp only [tFits, if_neg c_1_40, if_neg c_1_41, if_neg c_1_42, if_neg c_1_43, if_neg c_1_45, if_pos c_1_47, if_pos c_109]) (rfl) dX8_fits_117
  by_cases c_1_100 : x = 100
  · refine lv_lookup (off := 75) (tgt := 76) hx hb dX8_fits_1 (by decide) (by rw [c_1_100]; decide) (by decide) ?_
    refine lv_iload_n hx hb dX8_fits_76 rfl (lv_at hl 1 rfl) ?_
    exact r_zret C h hr hlk (Nat.zero_le _) (Nat.zero_le _) (by assumption) () (by simp only [tFits, if_neg c_1_40, if_neg c_1_41, if_neg c_1_42, if_neg c_1_43, if_neg c_1_45, if_neg c_1_47, if_pos c_1_100]) (rfl) dX8_fits_77
  by_cases c_1_108 : x = 108
  · refine lv_lookup (off := 75) (tgt := 76) hx hb dX8_fits_1 (by decide) (by rw [c_1_108]; decide) (by decide) ?_
    refine lv_iload_n hx hb dX8_fits_76 rfl (lv_at hl 1 rfl) ?_
    exact r_zret C h hr hlk (Nat.zero_le _) (Nat.zero_le _) (by assumption) () (by simp only [tFits, if_neg c_1_40, if_neg c_1_41, if_neg c_1_42, if_neg c_1_43, if_neg c_1_45, if_neg c_1_47, if_neg c_1_100, if_pos c_1_108]) (rfl) dX8_fits_77
  refine lv_lookup (off := 117) (tgt := 118) hx hb dX8_fits_1 (by decide) (by rw [show (#[(40, 77), (41, 93), (42, 107), (43, 107), (45, 107), (47, 107), (100, 75), (108, 75)] : Array (Int × Int)).toList = [(40, 77), (41, 93), (42, 107), (43, 107), (45, 107), (47, 107), (100, 75), (108, 75)] from rfl, lv_osw (a := 40) c_1_40 (by decide), lv_osw (a := 41) c_1_41 (by decide), lv_osw (a := 42) c_1_42 (by decide), lv_osw (a := 43) c_1_43 (by decide), lv_osw (a := 45) c_1_45 (by decide), lv_osw (a := 47) c_1_47 (by decide), lv_osw (a := 100) c_1_100 (by decide), lv_osw (a := 108) c_1_108 (by decide)]; rfl) (by decide) ?_
  refine lv_iconst (v := 0) hx hb dX8_fits_118 (by decide) ?_
  exact r_zret C h hr hlk (Nat.zero_le _) (Nat.zero_le _) (Or.inl rfl) () (by simp only [tFits, if_neg c_1_40, if_neg c_1_41, if_neg c_1_42, if_neg c_1_43, if_neg c_1_45, if_neg c_1_47, if_neg c_1_100, if_neg c_1_108]) (rfl) dX8_fits_119

set_option maxHeartbeats 4000000 in
set_option maxRecDepth 100000 in
theorem lp_X8_bytesIn {p : Program} {l : Launch} {e : Env} {R : Room} {s : State} {m : MethodId} {args : Array Value} {below : List Frame} {meth : Method} {c : Code} {cells slots : Nat} {Q : State → Prop} {G : gG} {A : Nat → Prop} (C : gC p m c cX8_bytesIn 3 s args wsX8_bytesIn RX8 G A) (v z : Int32) (kx : ∀ (H : Heap) (locs : List Loc) (ls : Array Slot), gS G A s [] H locs → lv_has ls 3 [(0, .int v), (1, .int z)] → W p l e R s m args below meth c H locs cells slots Q (F0 m 28 ls [])) :
    ∀ (k : Nat) (a x : Int32) (H : Heap) (locs : List Loc) (ls : Array Slot), (k ≤ 4) → (x = nI (8 * k) - 8) → (tIn v k a = z) →  gS G A s ([]) H locs → lv_has ls 3 [(0, .int v), (1, .int a), (2, .int x)] → W p l e R s m args below meth c H locs cells slots Q (F0 m 5 ls []) := by
  have hx := C.1.1.1
  have hb := C.1.1.2.1
  intro k
  induction k with
  | zero =>
    intro a x H locs ls hk ex hz h hl
    refine lv_iload_n hx hb dX8_bytesIn_5 rfl (lv_at hl 2 rfl) ?_
    refine lv_if_lt (tgt := 28) hx hb dX8_bytesIn_6 (by decide) (fun c_6 => ?_) (fun c_6 => ?_)
    · subst hz
      exact kx _ _ ls h (lv_sub hl [0, 1] rfl)
    · exact absurd (sh_neg ex) c_6
  | succ k ih =>
    intro a x H locs ls hk ex hz h hl
    obtain ⟨ex, hpos⟩ := sh_pos hk ex
    subst ex
    refine lv_iload_n hx hb dX8_bytesIn_5 rfl (lv_at hl 2 rfl) ?_
    refine lv_if_lt (tgt := 28) hx hb dX8_bytesIn_6 (by decide) (fun c_6 => ?_) (fun c_6 => ?_)
    · exact absurd c_6 hpos
    · refine lv_iload_n hx hb dX8_bytesIn_9 rfl (lv_at hl 0 rfl) ?_
      refine lv_iload_n hx hb dX8_bytesIn_10 rfl (lv_at hl 2 rfl) ?_
      refine lv_iushr hx hb dX8_bytesIn_11 rfl ?_
      refine lv_sipush (v := 255) hx hb dX8_bytesIn_12 (by decide) ?_
      refine lv_iand hx hb dX8_bytesIn_15 ?_
      refine lv_cgi (y := (tB v (nI (8 * k)))) (rfl) ?_
      refine lv_if_eq (tgt := 22) hx hb dX8_bytesIn_16 (by decide) (fun c_16 => ?_) (fun c_16 => ?_)
      · obtain ⟨x_1, ex_1⟩ : ∃ y : Int32, y = (nI (8 * k)) + (-8) := ⟨_, rfl⟩
        refine lv_iinc (v := x_1) (lv' := [(2, .int x_1), (0, .int v), (1, .int a)]) hx hb dX8_bytesIn_22 hl (k := 2) rfl (by rw [ex_1]; rfl) (by decide) rfl (fun ls hl => ?_)
        refine lv_goto (tgt := 5) hx hb dX8_bytesIn_25 (by decide) ?_
        exact ih a x_1 _ _ ls (by omega) (by rw [ex_1]; exact sh_dn) (by rw [← hz, tIn]; simp only [if_pos c_16]) h (lv_sub hl [1, 2, 0] rfl)
      · obtain ⟨x_2, ex_2⟩ : ∃ y : Int32, y = a + 1 := ⟨_, rfl⟩
        refine lv_iinc (v := x_2) (lv' := [(1, .int x_2), (0, .int v), (2, .int (nI (8 * k)))]) hx hb dX8_bytesIn_19 hl (k := 1) rfl (by rw [ex_2]; rfl) (by decide) rfl (fun ls hl => ?_)
        obtain ⟨x_3, ex_3⟩ : ∃ y : Int32, y = (nI (8 * k)) + (-8) := ⟨_, rfl⟩
        refine lv_iinc (v := x_3) (lv' := [(2, .int x_3), (1, .int x_2), (0, .int v)]) hx hb dX8_bytesIn_22 hl (k := 2) rfl (by rw [ex_3]; rfl) (by decide) rfl (fun ls hl => ?_)
        refine lv_goto (tgt := 5) hx hb dX8_bytesIn_25 (by decide) ?_
        exact ih x_2 x_3 _ _ ls (by omega) (by rw [ex_3]; exact sh_dn) (by rw [← hz, tIn]; simp only [if_neg c_16, ex_2]) h (lv_sub hl [2, 1, 0] rfl)

set_option maxHeartbeats 4000000 in
set_option maxRecDepth 100000 in
theorem t_bytesIn (l : Launch) (G : gG) (v : Int32) : cM l yX8_bytesIn wsX8_bytesIn 0 0 (0) (0) G [.int v] ([]) (qI G (S := Unit) (fun r _ => r = tIn v 4 0) (fun _ => [])) := by
  refine o_M (cc := cX8_bytesIn) (maxL := 3) (ret := (some .int)) (own := RX8) (by decide +kernel) rfl rfl (Nat.le_of_ble_eq_true rfl) ?_
  intro p e s m below meth c A ls H locs hA C h hr hlk hnm hl
  have hx := C.1.1.1
  have hb := C.1.1.2.1
  have hl : lv_has ls 3 [(0, .int v)] := hl
  refine lv_iconst (v := 0) hx hb dX8_bytesIn_0 (by decide) ?_
  refine lv_istore_n (lv' := [(1, .int 0), (0, .int v)]) hx hb dX8_bytesIn_1 rfl hl (by decide) rfl (fun ls hl => ?_)
  refine lv_bipush (v := 24) hx hb dX8_bytesIn_2 (by decide) ?_
  refine lv_istore_n (lv' := [(2, .int 24), (1, .int 0), (0, .int v)]) hx hb dX8_bytesIn_4 rfl hl (by decide) rfl (fun ls hl => ?_)
  refine lp_X8_bytesIn C v (tIn v 4 0) (fun H locs ls h hl => ?_) 4 0 24 _ _ ls (by decide) (by decide) rfl h (lv_sub hl [2, 1, 0] rfl)
  refine lv_iload_n hx hb dX8_bytesIn_28 rfl (lv_at hl 1 rfl) ?_
  exact r_iret C h hr hlk (Nat.zero_le _) (Nat.zero_le _) () (rfl) (rfl) dX8_bytesIn_29

set_option maxHeartbeats 4000000 in
set_option maxRecDepth 100000 in
theorem lp_X8_append {p : Program} {l : Launch} {e : Env} {R : Room} {s : State} {m : MethodId} {args : Array Value} {below : List Frame} {meth : Method} {c : Code} {cells slots : Nat} {Q : State → Prop} {G : gG} {A : Nat → Prop} (C : gC p m c cX8_append 4 s args wsX8_append RX8 G A) (h0 h1 : Nat) (v : Int32) (f' : Nat → Int32) (n' : Nat) (kx : ∀ (H : Heap) (locs : List Loc) (ls : Array Slot), gS G A s ([(h0, .inr (8, [.ref h1, .int (nI n')])), (h1, .inl (G.2.2 1, 120, .inl f'))]) H locs → lv_has ls 4 [(0, .ref h0)] → W p l e R s m args below meth c H locs cells slots Q (F0 m 54 ls [])) :
    ∀ (k : Nat) (n : Nat) (f : Nat → Int32) (x : Int32) (H : Heap) (locs : List Loc) (ls : Array Slot), (k ≤ 4) → (x = nI (8 * k) - 8) → (n ≤ 120) → (tAp v k f n = (f', n')) →  gS G A s ([(h0, .inr (8, [.ref h1, .int (nI n)])), (h1, .inl (G.2.2 1, 120, .inl f))]) H locs → lv_has ls 4 [(0, .ref h0), (1, .int v), (2, .int x)] → W p l e R s m args below meth c H locs cells slots Q (F0 m 3 ls []) := by
  have hx := C.1.1.1
  have hb := C.1.1.2.1
  have wd0 : Cond.fieldLink RX8 15 "ScaleHouse$Tape" "size" "I" ∈ wsX8_append := by decide +kernel
  have hinX8 : ∀ w ∈ wsX80, w ∈ wsX8_append := by decide +kernel
  have wd1 : Cond.fieldLink RX8 9 "ScaleHouse$Tape" "bytes" "[I" ∈ wsX8_append := by decide +kernel
  intro k
  induction k with
  | zero =>
    intro n f x H locs ls hk ex hn hz h hl
    refine lv_iload_n hx hb dX8_append_3 rfl (lv_at hl 2 rfl) ?_
    refine lv_if_lt (tgt := 54) hx hb dX8_append_4 (by decide) (fun c_4 => ?_) (fun c_4 => ?_)
    · cases hz
      exact kx _ _ ls h (lv_sub hl [0] rfl)
    · exact absurd (sh_neg ex) c_4
  | succ k ih =>
    intro n f x H locs ls hk ex hn hz h hl
    obtain ⟨ex, hpos⟩ := sh_pos hk ex
    subst ex
    refine lv_iload_n hx hb dX8_append_3 rfl (lv_at hl 2 rfl) ?_
    refine lv_if_lt (tgt := 54) hx hb dX8_append_4 (by decide) (fun c_4 => ?_) (fun c_4 => ?_)
    · exact absurd c_4 hpos
    · refine lv_iload_n hx hb dX8_append_7 rfl (lv_at hl 1 rfl) ?_
      refine lv_iload_n hx hb dX8_append_8 rfl (lv_at hl 2 rfl) ?_
      refine lv_iushr hx hb dX8_append_9 rfl ?_
      refine lv_sipush (v := 255) hx hb dX8_append_10 (by decide) ?_
      refine lv_iand hx hb dX8_append_13 ?_
      refine lv_cgi (y := (tB v (nI (8 * k)))) (rfl) ?_
      refine lv_istore_n (lv' := [(3, .int (tB v (nI (8 * k)))), (0, .ref h0), (1, .int v), (2, .int (nI (8 * k)))]) hx hb dX8_append_14 rfl hl (by decide) rfl (fun ls hl => ?_)
      refine lv_iload_n hx hb dX8_append_15 rfl (lv_at hl 0 rfl) ?_
      refine lv_if_eq (tgt := 48) hx hb dX8_append_16 (by decide) (fun c_16 => ?_) (fun c_16 => ?_)
      · obtain ⟨x_1, ex_1⟩ : ∃ y : Int32, y = (nI (8 * k)) + (-8) := ⟨_, rfl⟩
        refine lv_iinc (v := x_1) (lv' := [(2, .int x_1), (3, .int (tB v (nI (8 * k)))), (0, .ref h0), (1, .int v)]) hx hb dX8_append_48 hl (k := 3) rfl (by rw [ex_1]; rfl) (by decide) rfl (fun ls hl => ?_)
        refine lv_goto (tgt := 3) hx hb dX8_append_51 (by decide) ?_
        exact ih n f x_1 _ _ ls (by omega) (by rw [ex_1]; exact sh_dn) hn (by rw [← hz, tAp, if_pos c_16]) h (lv_sub hl [2, 3, 0] rfl)
      · refine lv_aload_n hx hb dX8_append_19 rfl (lv_at hl 1 rfl) ?_
        refine r_get C h 0 rfl (Cn := RX8) (T := TX8) (N := 2) rfl hinX8 1 (by decide) (index := 15) (ref := "ScaleHouse$Tape") wd0 rfl (v := .int (nI n)) rfl dX8_append_20 ?_
        refine lv_bipush (v := 120) hx hb dX8_append_23 (by decide) ?_
        refine lv_icmp_ge (tgt := 48) hx hb dX8_append_25 (by decide) (fun c_25 => ?_) (fun c_25 => ?_)
        · have hge : ¬ n < 120 := fun z => absurd c_25 (nI_ge (b := 120) z (by decide))
          obtain ⟨x_2, ex_2⟩ : ∃ y : Int32, y = (nI (8 * k)) + (-8) := ⟨_, rfl⟩
          refine lv_iinc (v := x_2) (lv' := [(2, .int x_2), (3, .int (tB v (nI (8 * k)))), (0, .ref h0), (1, .int v)]) hx hb dX8_append_48 hl (k := 3) rfl (by rw [ex_2]; rfl) (by decide) rfl (fun ls hl => ?_)
          refine lv_goto (tgt := 3) hx hb dX8_append_51 (by decide) ?_
          exact ih n f x_2 _ _ ls (by omega) (by rw [ex_2]; exact sh_dn) hn (by rw [← hz, tAp, if_neg c_16, if_neg hge]) h (lv_sub hl [2, 3, 0] rfl)
        · have hlt : n < 120 := nn_lt (b := 120) c_25 (by omega)
          refine lv_aload_n hx hb dX8_append_28 rfl (lv_at hl 1 rfl) ?_
          refine r_get C h 0 rfl (Cn := RX8) (T := TX8) (N := 2) rfl hinX8 0 (by decide) (index := 9) (ref := "ScaleHouse$Tape") wd1 rfl (v := .ref h1) rfl dX8_append_29 ?_
          refine lv_aload_n hx hb dX8_append_32 rfl (lv_at hl 1 rfl) ?_
          refine r_get C h 0 rfl (Cn := RX8) (T := TX8) (N := 2) rfl hinX8 1 (by decide) (index := 15) (ref := "ScaleHouse$Tape") wd0 rfl (v := .int (nI n)) rfl dX8_append_33 ?_
          refine lv_iload_n hx hb dX8_append_36 rfl (lv_at hl 0 rfl) ?_
          refine r_iast C h 1 rfl (i := (nI n)) (vp_in_nI hlt (by decide)) dX8_append_37 (fun H locs h => ?_)
          have h : gS G A s ([(h0, .inr (8, [.ref h1, .int (nI n)])), (h1, .inl (G.2.2 1, 120, .inl (upd f (nI n).toNatClampNeg (tB v (nI (8 * k))))))]) H locs := h
          rw [show (upd f (nI n).toNatClampNeg (tB v (nI (8 * k)))) = (upd f n (tB v (nI (8 * k)))) from by rw [nI_clamp (by omega)]] at h
          have h : gS G A s ([(h0, .inr (8, [.ref h1, .int (nI n)])), (h1, .inl (G.2.2 1, 120, .inl (upd f n (tB v (nI (8 * k))))))]) H locs := h
          refine lv_aload_n hx hb dX8_append_38 rfl (lv_at hl 1 rfl) ?_
          refine lv_dup hx hb dX8_append_39 rfl ?_
          refine r_get C h 0 rfl (Cn := RX8) (T := TX8) (N := 2) rfl hinX8 1 (by decide) (index := 15) (ref := "ScaleHouse$Tape") wd0 rfl (v := .int (nI n)) rfl dX8_append_40 ?_
          refine lv_iconst (v := 1) hx hb dX8_append_43 (by decide) ?_
          refine lv_iadd hx hb dX8_append_44 ?_
          refine r_put C h 0 rfl (Cn := RX8) (T := TX8) (N := 2) rfl hinX8 tyX8 tyX8_ok nmX8 1 (by decide) (index := 15) (ref := "ScaleHouse$Tape") wd0 rfl rfl (v := .int ((nI n) + 1)) rfl rfl (show 1 < 2 by decide) dX8_append_45 (fun H locs h => ?_)
          have h : gS G A s ([(h0, .inr (8, [.ref h1, .int ((nI n) + 1)])), (h1, .inl (G.2.2 1, 120, .inl (upd f n (tB v (nI (8 * k))))))]) H locs := h
          obtain ⟨x_3, ex_3⟩ : ∃ y : Int32, y = (nI (8 * k)) + (-8) := ⟨_, rfl⟩
          refine lv_iinc (v := x_3) (lv' := [(2, .int x_3), (3, .int (tB v (nI (8 * k)))), (0, .ref h0), (1, .int v)]) hx hb dX8_append_48 hl (k := 3) rfl (by rw [ex_3]; rfl) (by decide) rfl (fun ls hl => ?_)
          refine lv_goto (tgt := 3) hx hb dX8_append_51 (by decide) ?_
          exact ih (n + 1) (upd f n (tB v (nI (8 * k)))) x_3 _ _ ls (by omega) (by rw [ex_3]; exact sh_dn) (by omega) (by rw [← hz, tAp, if_neg c_16, if_pos hlt]) (by rw [← nI_1]; exact h) (lv_sub hl [2, 3, 0] rfl)

set_option maxHeartbeats 4000000 in
set_option maxRecDepth 100000 in
theorem t_append (l : Launch) (G : gG) (h0 h1 : Nat) (v : Int32) (n : Nat) (f : Nat → Int32) (hn : n ≤ 120) : cM l yX8_append wsX8_append 0 0 (0) (0) G [.ref h0, .int v] ([(h0, .inr (8, [.ref h1, .int (nI n)])), (h1, .inl (G.2.2 1, 120, .inl f))]) (qV G (S := Unit) (fun _ => True) (fun _ => [(h0, .inr (8, [.ref h1, .int (nI (tAp v 4 f n).2)])), (h1, .inl (G.2.2 1, 120, .inl ((tAp v 4 f n).1)))])) := by
  refine o_M (cc := cX8_append) (maxL := 4) (ret := none) (own := RX8) (by decide +kernel) rfl rfl (Nat.le_of_ble_eq_true rfl) ?_
  intro p e s m below meth c A ls H locs hA C h hr hlk hnm hl
  have hx := C.1.1.1
  have hb := C.1.1.2.1
  have hl : lv_has ls 4 [(0, .ref h0), (1, .int v)] := hl
  refine lv_bipush (v := 24) hx hb dX8_append_0 (by decide) ?_
  refine lv_istore_n (lv' := [(2, .int 24), (0, .ref h0), (1, .int v)]) hx hb dX8_append_2 rfl hl (by decide) rfl (fun ls hl => ?_)
  refine lp_X8_append C h0 h1 v (tAp v 4 f n).1 (tAp v 4 f n).2 (fun H locs ls h hl => ?_) 4 n f 24 _ _ ls (by decide) (by decide) hn rfl h (lv_sub hl [1, 2, 0] rfl)
  exact r_vret C h hr hlk (Nat.zero_le _) (Nat.zero_le _) () trivial rfl dX8_append_54

set_option maxHeartbeats 4000000 in
set_option maxRecDepth 100000 in
theorem lp_X8_firstFault {p : Program} {l : Launch} {e : Env} {s : State} {m : MethodId} {args : Array Value} {below : List Frame} {meth : Method} {c : Code} {Q : State → Prop} {G : gG} {A : Nat → Prop} (C : gC p m c cX8_firstFault 6 s args wsX8_firstFault RX8 G A) (h0 h1 : Nat) (n : Nat) (f : Nat → Int32) (z : Int32) (hn : n ≤ 120) (k1 : ∀ (H : Heap) (locs : List Loc) (ls : Array Slot), gS G A s ([(h0, .inr (8, [.ref h1, .int (nI n)])), (h1, .inl (G.2.2 1, 120, .inl f))]) H locs → W p l e (gR 1 22 0 0) s m args below meth c H locs 0 0 Q (F0 m 50 ls [.int z])) (k2 : ∀ (H : Heap) (locs : List Loc) (ls : Array Slot), gS G A s ([(h0, .inr (8, [.ref h1, .int (nI n)])), (h1, .inl (G.2.2 1, 120, .inl f))]) H locs → W p l e (gR 1 22 0 0) s m args below meth c H locs 0 0 Q (F0 m 83 ls [.int z])) (k3 : ∀ (H : Heap) (locs : List Loc) (ls : Array Slot), gS G A s ([(h0, .inr (8, [.ref h1, .int (nI n)])), (h1, .inl (G.2.2 1, 120, .inl f))]) H locs → W p l e (gR 1 22 0 0) s m args below meth c H locs 0 0 Q (F0 m 142 ls [.int z])) :
    ∀ (r : Nat) (i : Nat) (w d g : Int32) (H : Heap) (locs : List Loc) (ls : Array Slot), (i + r = n) → (w = 0 ∨ w = 1) → (tFf f n r i w d g = z) →  gS G A s ([(h0, .inr (8, [.ref h1, .int (nI n)])), (h1, .inl (G.2.2 1, 120, .inl f))]) H locs → lv_has ls 6 [(0, .ref h0), (1, .int w), (2, .int d), (3, .int g), (4, .int (nI i))] → W p l e (gR 1 22 0 0) s m args below meth c H locs 0 0 Q (F0 m 9 ls []) := by
  have hx := C.1.1.1
  have hb := C.1.1.2.1
  have wd0 : Cond.fieldLink RX8 15 "ScaleHouse$Tape" "size" "I" ∈ wsX8_firstFault := by decide +kernel
  have hinX8 : ∀ w ∈ wsX80, w ∈ wsX8_firstFault := by decide +kernel
  have wd1 : Cond.fieldLink RX8 9 "ScaleHouse$Tape" "bytes" "[I" ∈ wsX8_firstFault := by decide +kernel
  intro r
  induction r with
  | zero =>
    intro i w d g H locs ls hi hw hz h hl
    refine lv_iload hx hb dX8_firstFault_9 (lv_at hl 4 rfl) ?_
    refine lv_aload_n hx hb dX8_firstFault_11 rfl (lv_at hl 0 rfl) ?_
    refine r_get C h 0 rfl (Cn := RX8) (T := TX8) (N := 2) rfl hinX8 1 (by decide) (index := 15) (ref := "ScaleHouse$Tape") wd0 rfl (v := .int (nI n)) rfl dX8_firstFault_12 ?_
    refine lv_icmp_ge (tgt := 126) hx hb dX8_firstFault_15 (by decide) (fun c_15 => ?_) (fun c_15 => ?_)
    · refine lv_iload_n hx hb dX8_firstFault_126 rfl (lv_at hl 1 rfl) ?_
      refine lv_if_ne (tgt := 134) hx hb dX8_firstFault_127 (by decide) (fun c_127 => ?_) (fun c_127 => ?_)
      · refine lv_aload_n hx hb dX8_firstFault_134 rfl (lv_at hl 0 rfl) ?_
        refine r_get C h 0 rfl (Cn := RX8) (T := TX8) (N := 2) rfl hinX8 1 (by decide) (index := 15) (ref := "ScaleHouse$Tape") wd0 rfl (v := .int (nI n)) rfl dX8_firstFault_135 ?_
        refine lv_goto (tgt := 142) hx hb dX8_firstFault_138 (by decide) ?_
        refine lv_cgi (y := z) (by rw [← hz, tFf]; simp only [if_neg c_127]) ?_
        exact k3 _ _ ls h
      · refine lv_iload_n hx hb dX8_firstFault_130 rfl (lv_at hl 2 rfl) ?_
        refine lv_if_le (tgt := 141) hx hb dX8_firstFault_131 (by decide) (fun c_131 => ?_) (fun c_131 => ?_)
        · refine lv_iconst (v := -1) hx hb dX8_firstFault_141 (by decide) ?_
          refine lv_cgi (y := z) (by rw [← hz, tFf]; simp only [if_pos c_127, if_pos c_131]) ?_
          exact k3 _ _ ls h
        · refine lv_aload_n hx hb dX8_firstFault_134 rfl (lv_at hl 0 rfl) ?_
          refine r_get C h 0 rfl (Cn := RX8) (T := TX8) (N := 2) rfl hinX8 1 (by decide) (index := 15) (ref := "ScaleHouse$Tape") wd0 rfl (v := .int (nI n)) rfl dX8_firstFault_135 ?_
          refine lv_goto (tgt := 142) hx hb dX8_firstFault_138 (by decide) ?_
          refine lv_cgi (y := z) (by rw [← hz, tFf]; simp only [if_pos c_127, if_neg c_131]) ?_
          exact k3 _ _ ls h
    · exact absurd (by rw [show i = n by omega]; exact Int32.le_refl _) c_15
  | succ r ih =>
    intro i w d g H locs ls hi hw hz h hl
    refine lv_iload hx hb dX8_firstFault_9 (lv_at hl 4 rfl) ?_
    refine lv_aload_n hx hb dX8_firstFault_11 rfl (lv_at hl 0 rfl) ?_
    refine r_get C h 0 rfl (Cn := RX8) (T := TX8) (N := 2) rfl hinX8 1 (by decide) (index := 15) (ref := "ScaleHouse$Tape") wd0 rfl (v := .int (nI n)) rfl dX8_firstFault_12 ?_
    refine lv_icmp_ge (tgt := 126) hx hb dX8_firstFault_15 (by decide) (fun c_15 => ?_) (fun c_15 => ?_)
    · exact absurd c_15 (nI_ge (by omega) (by omega))
    · refine lv_aload_n hx hb dX8_firstFault_18 rfl (lv_at hl 0 rfl) ?_
      refine r_get C h 0 rfl (Cn := RX8) (T := TX8) (N := 2) rfl hinX8 0 (by decide) (index := 9) (ref := "ScaleHouse$Tape") wd1 rfl (v := .ref h1) rfl dX8_firstFault_19 ?_
      refine lv_iload hx hb dX8_firstFault_22 (lv_at hl 4 rfl) ?_
      refine r_iald C h 1 rfl (i := (nI i)) (vp_in_nI (by omega) (by decide)) dX8_firstFault_24 ?_
      refine lv_cgi (nn_at f (by omega)) ?_
      refine lv_istore (lv' := [(5, .int (f i)), (0, .ref h0), (1, .int w), (2, .int d), (3, .int g), (4, .int (nI i))]) hx hb dX8_firstFault_25 hl (by decide) rfl (fun ls hl => ?_)
      refine lv_iload hx hb dX8_firstFault_27 (lv_at hl 0 rfl) ?_
      have hp : List.Perm ([(h0, .inr (8, [.ref h1, .int (nI n)])), (h1, .inl (G.2.2 1, 120, .inl f))] : va_W) ([] ++ ([(h0, .inr (8, [.ref h1, .int (nI n)])), (h1, .inl (G.2.2 1, 120, .inl f))])) := List.Perm.refl _
      refine k_i C h hp (r_runS C h hp (As := [.int (f i)]) (rest := []) (t_isDigit l G (f i)) (va_cwS 1 C.1.1.2.2.2.2 gX8_firstFault_X8_isDigit rfl rfl rfl (by decide +kernel) ⟨Nat.le_of_ble_eq_true rfl, Nat.le_of_ble_eq_true rfl⟩) rfl hl.1 (Nat.le_of_ble_eq_true rfl) dX8_firstFault_29 ⟨Nat.le_of_ble_eq_true rfl, Nat.le_of_ble_eq_true rfl⟩) (fun r_1 u_2 H locs hw_3 h => ?_)
      have h : gS G A s ([(h0, .inr (8, [.ref h1, .int (nI n)])), (h1, .inl (G.2.2 1, 120, .inl f))]) H locs := h
      refine W.widen (k := 0) (n := 0) (Nat.le_of_ble_eq_true rfl) (Nat.le_of_ble_eq_true rfl) ?_
      subst hw_3
      refine lv_if_eq (tgt := 59) hx hb dX8_firstFault_32 (by decide) (fun c_32 => ?_) (fun c_32 => ?_)
      · refine lv_iconst (v := 0) hx hb dX8_firstFault_59 (by decide) ?_
        refine lv_istore_n (lv' := [(3, .int 0), (5, .int (f i)), (0, .ref h0), (1, .int w), (2, .int d), (4, .int (nI i))]) hx hb dX8_firstFault_60 rfl hl (by decide) rfl (fun ls hl => ?_)
        refine lv_iload hx hb dX8_firstFault_61 (lv_at hl 1 rfl) ?_
        refine lv_bipush (v := 32) hx hb dX8_firstFault_63 (by decide) ?_
        refine lv_icmp_ne (tgt := 71) hx hb dX8_firstFault_65 (by decide) (fun c_65 => ?_) (fun c_65 => ?_)
        · refine lv_iload hx hb dX8_firstFault_71 (lv_at hl 1 rfl) ?_
          refine lv_iload_n hx hb dX8_firstFault_73 rfl (lv_at hl 3 rfl) ?_
          refine lv_iload_n hx hb dX8_firstFault_74 rfl (lv_at hl 4 rfl) ?_
          have hp : List.Perm ([(h0, .inr (8, [.ref h1, .int (nI n)])), (h1, .inl (G.2.2 1, 120, .inl f))] : va_W) ([] ++ ([(h0, .inr (8, [.ref h1, .int (nI n)])), (h1, .inl (G.2.2 1, 120, .inl f))])) := List.Perm.refl _
          refine k_i C h hp (r_runS C h hp (As := [.int (f i), .int w, .int d]) (rest := []) (t_fits l G (f i) w d hw) (va_cwS 3 C.1.1.2.2.2.2 gX8_firstFault_X8_fits rfl rfl rfl (by decide +kernel) ⟨Nat.le_of_ble_eq_true rfl, Nat.le_of_ble_eq_true rfl⟩) rfl hl.1 (Nat.le_of_ble_eq_true rfl) dX8_firstFault_75 ⟨Nat.le_of_ble_eq_true rfl, Nat.le_of_ble_eq_true rfl⟩) (fun r_4 u_5 H locs hw_6 h => ?_)
          have h : gS G A s ([(h0, .inr (8, [.ref h1, .int (nI n)])), (h1, .inl (G.2.2 1, 120, .inl f))]) H locs := h
          refine W.widen (k := 0) (n := 0) (Nat.le_of_ble_eq_true rfl) (Nat.le_of_ble_eq_true rfl) ?_
          subst hw_6
          refine lv_if_ne (tgt := 84) hx hb dX8_firstFault_78 (by decide) (fun c_78 => ?_) (fun c_78 => ?_)
          · refine lv_iload hx hb dX8_firstFault_84 (lv_at hl 1 rfl) ?_
            refine lv_bipush (v := 40) hx hb dX8_firstFault_86 (by decide) ?_
            refine lv_icmp_ne (tgt := 97) hx hb dX8_firstFault_88 (by decide) (fun c_88 => ?_) (fun c_88 => ?_)
            · refine lv_iload hx hb dX8_firstFault_97 (lv_at hl 1 rfl) ?_
              refine lv_bipush (v := 41) hx hb dX8_firstFault_99 (by decide) ?_
              refine lv_icmp_ne (tgt := 110) hx hb dX8_firstFault_101 (by decide) (fun c_101 => ?_) (fun c_101 => ?_)
              · refine lv_iload_n hx hb dX8_firstFault_110 rfl (lv_at hl 3 rfl) ?_
                refine lv_if_ne (tgt := 118) hx hb dX8_firstFault_111 (by decide) (fun c_111 => ?_) (fun c_111 => ?_)
                · refine lv_iconst (v := 0) hx hb dX8_firstFault_118 (by decide) ?_
                  refine lv_istore_n (lv' := [(1, .int 0), (3, .int 0), (5, .int (f i)), (0, .ref h0), (2, .int d), (4, .int (nI i))]) hx hb dX8_firstFault_119 rfl hl (by decide) rfl (fun ls hl => ?_)
                  obtain ⟨x_7, ex_7⟩ : ∃ y : Int32, y = (nI i) + 1 := ⟨_, rfl⟩
                  refine lv_iinc (v := x_7) (lv' := [(4, .int x_7), (1, .int 0), (3, .int 0), (5, .int (f i)), (0, .ref h0), (2, .int d)]) hx hb dX8_firstFault_120 hl (k := 5) rfl (by rw [ex_7]; rfl) (by decide) rfl (fun ls hl => ?_)
                  refine lv_goto (tgt := 9) hx hb dX8_firstFault_123 (by decide) ?_
                  exact ih (i + 1) 0 d 0 _ _ ls (by omega) (by decide) (by rw [← hz, tFf]; simp only [if_pos c_32, if_neg c_65, if_neg c_78, if_neg c_88, if_neg c_101, if_neg c_111]) h (by rw [← nI_1, ← ex_7]; exact lv_sub hl [4, 1, 5, 2, 0] rfl)
                · refine lv_iconst (v := 1) hx hb dX8_firstFault_114 (by decide) ?_
                  refine lv_goto (tgt := 119) hx hb dX8_firstFault_115 (by decide) ?_
                  refine lv_istore_n (lv' := [(1, .int 1), (3, .int 0), (5, .int (f i)), (0, .ref h0), (2, .int d), (4, .int (nI i))]) hx hb dX8_firstFault_119 rfl hl (by decide) rfl (fun ls hl => ?_)
                  obtain ⟨x_8, ex_8⟩ : ∃ y : Int32, y = (nI i) + 1 := ⟨_, rfl⟩
                  refine lv_iinc (v := x_8) (lv' := [(4, .int x_8), (1, .int 1), (3, .int 0), (5, .int (f i)), (0, .ref h0), (2, .int d)]) hx hb dX8_firstFault_120 hl (k := 5) rfl (by rw [ex_8]; rfl) (by decide) rfl (fun ls hl => ?_)
                  refine lv_goto (tgt := 9) hx hb dX8_firstFault_123 (by decide) ?_
                  exact ih (i + 1) 1 d 0 _ _ ls (by omega) (by decide) (by rw [← hz, tFf]; simp only [if_pos c_32, if_neg c_65, if_neg c_78, if_neg c_88, if_neg c_101, if_pos c_111]) h (by rw [← nI_1, ← ex_8]; exact lv_sub hl [4, 1, 5, 2, 0] rfl)
              · obtain ⟨x_9, ex_9⟩ : ∃ y : Int32, y = d + (-1) := ⟨_, rfl⟩
                refine lv_iinc (v := x_9) (lv' := [(2, .int x_9), (3, .int 0), (5, .int (f i)), (0, .ref h0), (1, .int w), (4, .int (nI i))]) hx hb dX8_firstFault_104 hl (k := 4) rfl (by rw [ex_9]; rfl) (by decide) rfl (fun ls hl => ?_)
                refine lv_goto (tgt := 120) hx hb dX8_firstFault_107 (by decide) ?_
                obtain ⟨x_10, ex_10⟩ : ∃ y : Int32, y = (nI i) + 1 := ⟨_, rfl⟩
                refine lv_iinc (v := x_10) (lv' := [(4, .int x_10), (2, .int x_9), (3, .int 0), (5, .int (f i)), (0, .ref h0), (1, .int w)]) hx hb dX8_firstFault_120 hl (k := 5) rfl (by rw [ex_10]; rfl) (by decide) rfl (fun ls hl => ?_)
                refine lv_goto (tgt := 9) hx hb dX8_firstFault_123 (by decide) ?_
                exact ih (i + 1) w x_9 0 _ _ ls (by omega) (by exact hw) (by rw [← hz, tFf]; simp only [ex_9, if_pos c_32, if_neg c_65, if_neg c_78, if_neg c_88, if_pos c_101]) h (by rw [← nI_1, ← ex_10]; exact lv_sub hl [4, 5, 1, 2, 0] rfl)
            · obtain ⟨x_11, ex_11⟩ : ∃ y : Int32, y = d + 1 := ⟨_, rfl⟩
              refine lv_iinc (v := x_11) (lv' := [(2, .int x_11), (3, .int 0), (5, .int (f i)), (0, .ref h0), (1, .int w), (4, .int (nI i))]) hx hb dX8_firstFault_91 hl (k := 4) rfl (by rw [ex_11]; rfl) (by decide) rfl (fun ls hl => ?_)
              refine lv_goto (tgt := 120) hx hb dX8_firstFault_94 (by decide) ?_
              obtain ⟨x_12, ex_12⟩ : ∃ y : Int32, y = (nI i) + 1 := ⟨_, rfl⟩
              refine lv_iinc (v := x_12) (lv' := [(4, .int x_12), (2, .int x_11), (3, .int 0), (5, .int (f i)), (0, .ref h0), (1, .int w)]) hx hb dX8_firstFault_120 hl (k := 5) rfl (by rw [ex_12]; rfl) (by decide) rfl (fun ls hl => ?_)
              refine lv_goto (tgt := 9) hx hb dX8_firstFault_123 (by decide) ?_
              exact ih (i + 1) w x_11 0 _ _ ls (by omega) (by exact hw) (by rw [← hz, tFf]; simp only [ex_11, if_pos c_32, if_neg c_65, if_neg c_78, if_pos c_88]) h (by rw [← nI_1, ← ex_12]; exact lv_sub hl [4, 5, 1, 2, 0] rfl)
          · refine lv_iload hx hb dX8_firstFault_81 (lv_at hl 5 rfl) ?_
            refine lv_cgi (y := z) (by rw [← hz, tFf]; simp only [if_pos c_32, if_neg c_65, if_pos c_78]) ?_
            exact k2 _ _ ls h
        · refine lv_goto (tgt := 120) hx hb dX8_firstFault_68 (by decide) ?_
          obtain ⟨x_13, ex_13⟩ : ∃ y : Int32, y = (nI i) + 1 := ⟨_, rfl⟩
          refine lv_iinc (v := x_13) (lv' := [(4, .int x_13), (3, .int 0), (5, .int (f i)), (0, .ref h0), (1, .int w), (2, .int d)]) hx hb dX8_firstFault_120 hl (k := 5) rfl (by rw [ex_13]; rfl) (by decide) rfl (fun ls hl => ?_)
          refine lv_goto (tgt := 9) hx hb dX8_firstFault_123 (by decide) ?_
          exact ih (i + 1) w d 0 _ _ ls (by omega) (by exact hw) (by rw [← hz, tFf]; simp only [if_pos c_32, if_pos c_65]) h (by rw [← nI_1, ← ex_13]; exact lv_sub hl [3, 4, 5, 1, 0] rfl)
      · refine lv_iload_n hx hb dX8_firstFault_35 rfl (lv_at hl 2 rfl) ?_
        refine lv_if_ne (tgt := 51) hx hb dX8_firstFault_36 (by decide) (fun c_36 => ?_) (fun c_36 => ?_)
        · obtain ⟨x_14, ex_14⟩ : ∃ y : Int32, y = g + 1 := ⟨_, rfl⟩
          refine lv_iinc (v := x_14) (lv' := [(3, .int x_14), (5, .int (f i)), (0, .ref h0), (1, .int w), (2, .int d), (4, .int (nI i))]) hx hb dX8_firstFault_51 hl (k := 4) rfl (by rw [ex_14]; rfl) (by decide) rfl (fun ls hl => ?_)
          refine lv_iconst (v := 0) hx hb dX8_firstFault_54 (by decide) ?_
          refine lv_istore_n (lv' := [(1, .int 0), (3, .int x_14), (5, .int (f i)), (0, .ref h0), (2, .int d), (4, .int (nI i))]) hx hb dX8_firstFault_55 rfl hl (by decide) rfl (fun ls hl => ?_)
          refine lv_goto (tgt := 120) hx hb dX8_firstFault_56 (by decide) ?_
          obtain ⟨x_15, ex_15⟩ : ∃ y : Int32, y = (nI i) + 1 := ⟨_, rfl⟩
          refine lv_iinc (v := x_15) (lv' := [(4, .int x_15), (1, .int 0), (3, .int x_14), (5, .int (f i)), (0, .ref h0), (2, .int d)]) hx hb dX8_firstFault_120 hl (k := 5) rfl (by rw [ex_15]; rfl) (by decide) rfl (fun ls hl => ?_)
          refine lv_goto (tgt := 9) hx hb dX8_firstFault_123 (by decide) ?_
          exact ih (i + 1) 0 d x_14 _ _ ls (by omega) (by decide) (by rw [← hz, tFf]; simp only [ex_14, if_neg c_32, if_neg c_36]) h (by rw [← nI_1, ← ex_15]; exact lv_sub hl [4, 1, 5, 2, 0] rfl)
        · refine lv_iload_n hx hb dX8_firstFault_39 rfl (lv_at hl 4 rfl) ?_
          refine lv_if_eq (tgt := 48) hx hb dX8_firstFault_40 (by decide) (fun c_40 => ?_) (fun c_40 => ?_)
          · refine lv_iload hx hb dX8_firstFault_48 (lv_at hl 5 rfl) ?_
            refine lv_cgi (y := z) (by rw [← hz, tFf]; simp only [if_neg c_32, if_pos c_36, if_pos c_40]) ?_
            exact k1 _ _ ls h
          · refine lv_iload_n hx hb dX8_firstFault_43 rfl (lv_at hl 4 rfl) ?_
            refine lv_iconst (v := 5) hx hb dX8_firstFault_44 (by decide) ?_
            refine lv_icmp_ne (tgt := 51) hx hb dX8_firstFault_45 (by decide) (fun c_45 => ?_) (fun c_45 => ?_)
            · obtain ⟨x_16, ex_16⟩ : ∃ y : Int32, y = g + 1 := ⟨_, rfl⟩
              refine lv_iinc (v := x_16) (lv' := [(3, .int x_16), (5, .int (f i)), (0, .ref h0), (1, .int w), (2, .int d), (4, .int (nI i))]) hx hb dX8_firstFault_51 hl (k := 4) rfl (by rw [ex_16]; rfl) (by decide) rfl (fun ls hl => ?_)
              refine lv_iconst (v := 0) hx hb dX8_firstFault_54 (by decide) ?_
              refine lv_istore_n (lv' := [(1, .int 0), (3, .int x_16), (5, .int (f i)), (0, .ref h0), (2, .int d), (4, .int (nI i))]) hx hb dX8_firstFault_55 rfl hl (by decide) rfl (fun ls hl => ?_)
              refine lv_goto (tgt := 120) hx hb dX8_firstFault_56 (by decide) ?_
              obtain ⟨x_17, ex_17⟩ : ∃ y : Int32, y = (nI i) + 1 := ⟨_, rfl⟩
              refine lv_iinc (v := x_17) (lv' := [(4, .int x_17), (1, .int 0), (3, .int x_16), (5, .int (f i)), (0, .ref h0), (2, .int d)]) hx hb dX8_firstFault_120 hl (k := 5) rfl (by rw [ex_17]; rfl) (by decide) rfl (fun ls hl => ?_)
              refine lv_goto (tgt := 9) hx hb dX8_firstFault_123 (by decide) ?_
              exact ih (i + 1) 0 d x_16 _ _ ls (by omega) (by decide) (by rw [← hz, tFf]; simp only [ex_16, if_neg c_32, if_pos c_36, if_neg c_40, if_neg c_45]) h (by rw [← nI_1, ← ex_17]; exact lv_sub hl [4, 1, 5, 2, 0] rfl)
            · refine lv_iload hx hb dX8_firstFault_48 (lv_at hl 5 rfl) ?_
              refine lv_cgi (y := z) (by rw [← hz, tFf]; simp only [if_neg c_32, if_pos c_36, if_neg c_40, if_pos c_45]) ?_
              exact k1 _ _ ls h

set_option maxHeartbeats 4000000 in
set_option maxRecDepth 100000 in
theorem t_firstFault (l : Launch) (G : gG) (h0 h1 : Nat) (n : Nat) (f : Nat → Int32) (hn : n ≤ 120) : cM l yX8_firstFault wsX8_firstFault 1 22 (0) (0) G [.ref h0] ([(h0, .inr (8, [.ref h1, .int (nI n)])), (h1, .inl (G.2.2 1, 120, .inl f))]) (qI G (S := Unit) (fun r _ => r = tFf f n n 0 1 0 0) (fun _ => [(h0, .inr (8, [.ref h1, .int (nI n)])), (h1, .inl (G.2.2 1, 120, .inl f))])) := by
  refine o_M (cc := cX8_firstFault) (maxL := 6) (ret := (some .int)) (own := RX8) (by decide +kernel) rfl rfl (Nat.le_of_ble_eq_true rfl) ?_
  intro p e s m below meth c A ls H locs hA C h hr hlk hnm hl
  have hx := C.1.1.1
  have hb := C.1.1.2.1
  have hl : lv_has ls 6 [(0, .ref h0)] := hl
  refine lv_iconst (v := 1) hx hb dX8_firstFault_0 (by decide) ?_
  refine lv_istore_n (lv' := [(1, .int 1), (0, .ref h0)]) hx hb dX8_firstFault_1 rfl hl (by decide) rfl (fun ls hl => ?_)
  refine lv_iconst (v := 0) hx hb dX8_firstFault_2 (by decide) ?_
  refine lv_istore_n (lv' := [(2, .int 0), (1, .int 1), (0, .ref h0)]) hx hb dX8_firstFault_3 rfl hl (by decide) rfl (fun ls hl => ?_)
  refine lv_iconst (v := 0) hx hb dX8_firstFault_4 (by decide) ?_
  refine lv_istore_n (lv' := [(3, .int 0), (2, .int 0), (1, .int 1), (0, .ref h0)]) hx hb dX8_firstFault_5 rfl hl (by decide) rfl (fun ls hl => ?_)
  refine lv_iconst (v := 0) hx hb dX8_firstFault_6 (by decide) ?_
  refine lv_istore (lv' := [(4, .int 0), (3, .int 0), (2, .int 0), (1, .int 1), (0, .ref h0)]) hx hb dX8_firstFault_7 hl (by decide) rfl (fun ls hl => ?_)
  refine lp_X8_firstFault C h0 h1 n f (tFf f n n 0 1 0 0) hn (fun H locs ls h => ?_) (fun H locs ls h => ?_) (fun H locs ls h => ?_) n 0 1 0 0 _ _ ls (by omega) (by decide) rfl h (lv_sub hl [4, 3, 2, 1, 0] rfl)
  · exact r_iret C h hr hlk (Nat.zero_le _) (Nat.zero_le _) () rfl rfl dX8_firstFault_50
  · exact r_iret C h hr hlk (Nat.zero_le _) (Nat.zero_le _) () rfl rfl dX8_firstFault_83
  · exact r_iret C h hr hlk (Nat.zero_le _) (Nat.zero_le _) () rfl rfl dX8_firstFault_142

set_option maxHeartbeats 4000000 in
set_option maxRecDepth 100000 in
theorem t_init (l : Launch) (G : gG) (h0 : Nat) : cM l yX8_init wsX8_init 1 20 (1) (120) G [.ref h0] ([(h0, .inr (8, [.null, .int 0]))]) (qV G (S := Nat) (fun _ => True) (fun q => [(h0, .inr (8, [.ref q, .int (nI 0)])), (q, .inl (G.2.2 1, 120, .inl (fun _ => 0)))])) := by
  refine o_M (cc := cX8_init) (maxL := 1) (ret := none) (own := RX8) (by decide +kernel) rfl rfl (Nat.le_of_ble_eq_true rfl) ?_
  intro p e s m below meth c A ls H locs hA C h hr hlk hnm hl
  have hx := C.1.1.1
  have hb := C.1.1.2.1
  have hl : lv_has ls 1 [(0, .ref h0)] := hl
  have wd0 : Cond.methodLink RX8 3 objectInit ∈ wsX8_init := by decide +kernel
  have wd1 : Cond.instanceMethod objectInit ∈ wsX8_init := by decide +kernel
  have wd2 : Cond.code objectInit ⟨#[0xb1]⟩ 1 none ∈ wsX8_init := by decide +kernel
  have wd3 : Cond.arrayClass .int ∈ wsX8_init := by decide +kernel
  have wd4 : Cond.fieldLink RX8 9 "ScaleHouse$Tape" "bytes" "[I" ∈ wsX8_init := by decide +kernel
  have hinX8 : ∀ w ∈ wsX80, w ∈ wsX8_init := by decide +kernel
  have wd5 : Cond.fieldLink RX8 15 "ScaleHouse$Tape" "size" "I" ∈ wsX8_init := by decide +kernel
  refine lv_aload_n hx hb dX8_init_0 rfl (lv_at hl 0 rfl) ?_
  refine r_objInit C wd0 wd1 wd2 hl.1 dX8_init_1 (Nat.le_of_ble_eq_true rfl) (Nat.le_of_ble_eq_true rfl) ?_
  refine lv_aload_n hx hb dX8_init_4 rfl (lv_at hl 0 rfl) ?_
  refine lv_bipush (v := 120) hx hb dX8_init_5 (by decide) ?_
  refine r_newa C h (ty := .int) rfl 1 (cA := G.2.2 1) rfl (fun z => z) wd3 (n := 120) (N' := 120) (a0 := (120, .inl (fun _ => 0))) (fun _ => rfl) (by decide) (rfl) (by decide) (Nat.le_of_ble_eq_true rfl) (Nat.le_of_ble_eq_true rfl) dX8_init_7 (fun q H h => ?_)
  refine W.widen (k := 1) (n := 120) (Nat.le_of_ble_eq_true rfl) (Nat.le_of_ble_eq_true rfl) ?_
  have h : gS G A s ([(h0, .inr (8, [.null, .int 0])), (q, .inl (G.2.2 1, 120, .inl (fun _ => 0)))]) H locs := h
  refine r_putF C h 0 rfl (Cn := RX8) (T := TX8) (N := 2) rfl hinX8 tyX8 tyX8_ok nmX8 0 (by decide) (index := 9) (ref := "ScaleHouse$Tape") wd4 rfl rfl hnm rfl (v := .ref q) rfl rfl (show 0 < 2 by decide) dX8_init_9 (fun H locs h => ?_)
  have h : gS G A s ([(h0, .inr (8, [.ref q, .int 0])), (q, .inl (G.2.2 1, 120, .inl (fun _ => 0)))]) H locs := h
  refine lv_aload_n hx hb dX8_init_12 rfl (lv_at hl 0 rfl) ?_
  refine lv_iconst (v := 0) hx hb dX8_init_13 (by decide) ?_
  refine r_put C h 0 rfl (Cn := RX8) (T := TX8) (N := 2) rfl hinX8 tyX8 tyX8_ok nmX8 1 (by decide) (index := 15) (ref := "ScaleHouse$Tape") wd5 rfl rfl (v := .int 0) rfl rfl (show 1 < 2 by decide) dX8_init_14 (fun H locs h => ?_)
  have h : gS G A s ([(h0, .inr (8, [.ref q, .int 0])), (q, .inl (G.2.2 1, 120, .inl (fun _ => 0)))]) H locs := h
  exact r_vret C h hr hlk (Nat.le_refl _) (Nat.le_refl _) q (trivial) (rfl) dX8_init_17
