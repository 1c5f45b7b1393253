/-! ===== the reference: habit; a new one ===== -/
def hSum (p : Nat → Bool) (x : Nat → Nat) : Nat → Nat → Nat
  | 0, _ => 0
  | r + 1, i => (if p i = true then x i else 0) + hSum p x r (i + 1)
theorem hSum_le (p : Nat → Bool) (x : Nat → Nat) (m n : Nat) (hx : ∀ i, i < n → x i ≤ m) : ∀ r i, i + r = n → hSum p x r i ≤ r * m
  | 0, _, _ => Nat.zero_le _
  | r + 1, i, h => by
    rw [hSum, Nat.succ_mul]
    have h1 := hSum_le p x m n hx r (i + 1) (by omega)
    have h2 := hx i (by omega)
    split <;> omega
def hP (F : Nat → Nat → Int32) (stick : Int32) (i : Nat) : Bool := decide (F 11 i = stick)
def mHab (F : Nat → Nat → Int32) (rd ck : Nat → Nat) (ng : Nat) (stick wh : Int32) : Int64 :=
  if mIn stick 0 5 = 0 then -1 else if mIn wh 0 1 = 0 then -1
  else if hSum (hP F stick) (fun i => ck i * ck i) ng 0 = 0 then -1
  else if wh = 0 then lN (hSum (hP F stick) (fun i => rd i * ck i) ng 0 / Nat.gcd (hSum (hP F stick) (fun i => ck i * ck i) ng 0) (hSum (hP F stick) (fun i => rd i * ck i) ng 0))
  else lN (hSum (hP F stick) (fun i => ck i * ck i) ng 0 / Nat.gcd (hSum (hP F stick) (fun i => ck i * ck i) ng 0) (hSum (hP F stick) (fun i => rd i * ck i) ng 0))
/-- reads and checks are small numbers -/
def mRc (F : Nat → Nat → Int32) (rd ck : Nat → Nat) (ng : Nat) : Prop := ∀ i, i < ng → F 12 i = nI (rd i) ∧ rd i ≤ 99 ∧ F 18 i = nI (ck i) ∧ ck i ≤ 99
theorem sq_le {a b : Nat} (h : a ≤ 99) (h2 : b ≤ 99) : a * b ≤ 9801 := Nat.mul_le_mul h h2

set_option maxHeartbeats 4000000 in
set_option maxRecDepth 100000 in
theorem lp_X10_habit1 {p : Program} {l : Launch} {e : Env} {R : Room} {s : State} {m : MethodId} {args : Array Value} {below : List Frame} {meth : Method} {c : Code} {cells slots : Nat} {Q : State → Prop} {G : gG} {A : Nat → Prop} (C : gC p m c cX10_habit 13 s args wsX10_habit RX10 G A) (ad : Nat → Nat) (I : Nat → Int32) (F : Nat → Nat → Int32) (rw : Nat) (gd gl : Int64) (rd ck : Nat → Nat) (ng : Nat) (hng : I 27 = nI ng) (hng2 : ng ≤ 100) (hrc : mRc F rd ck ng) (stick wh : Int32) (za zb : Nat) (kx : ∀ (H : Heap) (locs : List Loc) (ls : Array Slot), gS G A s (mW G ad I F rw gd gl) H locs → lv_has ls 13 [(0, .ref (ad 0)), (1, .int stick), (2, .int wh), (3, .long (lN za)), (5, .long (lN zb))] → W p l e R s m args below meth c H locs cells slots Q (F0 m 114 ls [])) :
    ∀ (r : Nat) (i a b : Nat) (H : Heap) (locs : List Loc) (ls : Array Slot), (i + r = ng) → (a + hSum (hP F stick) (fun i => rd i * ck i) r i = za) → (b + hSum (hP F stick) (fun i => ck i * ck i) r i = zb) →  gS G A s (mW G ad I F rw gd gl) H locs → lv_has ls 13 [(0, .ref (ad 0)), (1, .int stick), (2, .int wh), (3, .long (lN a)), (5, .long (lN b)), (7, .int (nI i))] → W p l e R s m args below meth c H locs cells slots Q (F0 m 35 ls []) := by
  have hx := C.1.1.1
  have hb := C.1.1.2.1
  have wd0 : Cond.fieldLink RX10 219 "ScaleHouseModel" "logs" "I" ∈ wsX10_habit := by decide +kernel
  have hinX10 : ∀ w ∈ wsX100, w ∈ wsX10_habit := fun _ h => List.mem_cons_of_mem _ (List.mem_append_right _ h)
  have wd1 : Cond.fieldLink RX10 41 "ScaleHouseModel" "logStick" "[I" ∈ wsX10_habit := by decide +kernel
  have wd2 : Cond.fieldLink RX10 62 "ScaleHouseModel" "check" "[I" ∈ wsX10_habit := by decide +kernel
  have wd3 : Cond.fieldLink RX10 44 "ScaleHouseModel" "logRead" "[I" ∈ wsX10_habit := by decide +kernel
  intro r
  induction r with
  | zero =>
    intro i a b H locs ls hi hza hzb h hl
    refine lv_iload hx hb dX10_habit_35 (lv_at hl 5 rfl) ?_
    refine lv_aload_n hx hb dX10_habit_37 rfl (lv_at hl 0 rfl) ?_
    refine r_get C h 0 rfl (Cn := RX10) (T := TX10) (N := 50) rfl hinX10 27 (by decide) (index := 219) (ref := "ScaleHouseModel") wd0 rfl (v := .int (I 27)) rfl dX10_habit_38 ?_
    refine lv_cgi (y := (nI ng)) (hng) ?_
    refine lv_icmp_ge (tgt := 114) hx hb dX10_habit_41 (by decide) (fun c_41 => ?_) (fun c_41 => ?_)
    · obtain rfl : a = za := hza
      obtain rfl : b = zb := hzb
      exact kx _ _ ls h (lv_sub hl [0, 1, 2, 3, 4] rfl)
    · exact absurd (by rw [show i = ng by omega]; exact Int32.le_refl _) c_41
  | succ r ih =>
    intro i a b H locs ls hi hza hzb h hl
    refine lv_iload hx hb dX10_habit_35 (lv_at hl 5 rfl) ?_
    refine lv_aload_n hx hb dX10_habit_37 rfl (lv_at hl 0 rfl) ?_
    refine r_get C h 0 rfl (Cn := RX10) (T := TX10) (N := 50) rfl hinX10 27 (by decide) (index := 219) (ref := "ScaleHouseModel") wd0 rfl (v := .int (I 27)) rfl dX10_habit_38 ?_
    refine lv_cgi (y := (nI ng)) (hng) ?_
    refine lv_icmp_ge (tgt := 114) hx hb dX10_habit_41 (by decide) (fun c_41 => ?_) (fun c_41 => ?_)
    · exact absurd c_41 (nI_ge (by omega) (by omega))
    · obtain ⟨hc1, hc2, hc3, hc4⟩ := hrc i (by omega)
      have hq1 := sq_le hc2 hc4
      have hq2 := sq_le hc4 hc4
      refine lv_aload_n hx hb dX10_habit_44 rfl (lv_at hl 0 rfl) ?_
      refine r_get C h 0 rfl (Cn := RX10) (T := TX10) (N := 50) rfl hinX10 11 (by decide) (index := 41) (ref := "ScaleHouseModel") wd1 rfl (v := .ref (ad 11)) rfl dX10_habit_45 ?_
      refine lv_iload hx hb dX10_habit_48 (lv_at hl 5 rfl) ?_
      refine r_iald C h 11 rfl (i := (nI i)) (vp_in_nI (by omega) (by decide)) dX10_habit_50 ?_
      refine lv_cgi (y := (F 11 i)) (nn_at (F 11) (by omega)) ?_
      refine lv_iload_n hx hb dX10_habit_51 rfl (lv_at hl 1 rfl) ?_
      refine lv_icmp_ne (tgt := 108) hx hb dX10_habit_52 (by decide) (fun c_52 => ?_) (fun c_52 => ?_)
      · have d52 : ¬ hP F stick i = true := fun z9 => c_52 (of_decide_eq_true z9)
        refine lv_iinc (v := nI (i + 1)) (lv' := [(7, .int (nI (i + 1))), (0, .ref (ad 0)), (1, .int stick), (2, .int wh), (3, .long (lN a)), (5, .long (lN b))]) hx hb dX10_habit_108 hl (k := 5) rfl (nI_1 _) (by decide) rfl (fun ls hl => ?_)
        refine lv_goto (tgt := 35) hx hb dX10_habit_111 (by decide) ?_
        exact ih (i + 1) a b _ _ ls (by omega) (by rw [← hza, hSum, if_neg d52, Nat.zero_add]) (by rw [← hzb, hSum, if_neg d52, Nat.zero_add]) h (lv_sub hl [1, 2, 3, 4, 5, 0] rfl)
      · have d52 : hP F stick i = true := decide_eq_true c_52
        refine lv_aload_n hx hb dX10_habit_55 rfl (lv_at hl 0 rfl) ?_
        refine r_get C h 0 rfl (Cn := RX10) (T := TX10) (N := 50) rfl hinX10 18 (by decide) (index := 62) (ref := "ScaleHouseModel") wd2 rfl (v := .ref (ad 18)) rfl dX10_habit_56 ?_
        refine lv_iload hx hb dX10_habit_59 (lv_at hl 5 rfl) ?_
        refine r_iald C h 18 rfl (i := (nI i)) (vp_in_nI (by omega) (by decide)) dX10_habit_61 ?_
        refine lv_cgi (y := (nI (ck i))) (by rw [nn_at (F 18) (by omega), hc3]) ?_
        refine lv_if_ne (tgt := 68) hx hb dX10_habit_62 (by decide) (fun c_62 => ?_) (fun c_62 => ?_)
        · refine lv_lload_n hx hb dX10_habit_68 rfl (lv_at hl 3 rfl) ?_
          refine lv_aload_n hx hb dX10_habit_69 rfl (lv_at hl 0 rfl) ?_
          refine r_get C h 0 rfl (Cn := RX10) (T := TX10) (N := 50) rfl hinX10 12 (by decide) (index := 44) (ref := "ScaleHouseModel") wd3 rfl (v := .ref (ad 12)) rfl dX10_habit_70 ?_
          refine lv_iload hx hb dX10_habit_73 (lv_at hl 5 rfl) ?_
          refine r_iald C h 12 rfl (i := (nI i)) (vp_in_nI (by omega) (by decide)) dX10_habit_75 ?_
          refine lv_cgi (y := (nI (rd i))) (by rw [nn_at (F 12) (by omega), hc1]) ?_
          refine lv_aload_n hx hb dX10_habit_76 rfl (lv_at hl 0 rfl) ?_
          refine r_get C h 0 rfl (Cn := RX10) (T := TX10) (N := 50) rfl hinX10 18 (by decide) (index := 62) (ref := "ScaleHouseModel") wd2 rfl (v := .ref (ad 18)) rfl dX10_habit_77 ?_
          refine lv_iload hx hb dX10_habit_80 (lv_at hl 5 rfl) ?_
          refine r_iald C h 18 rfl (i := (nI i)) (vp_in_nI (by omega) (by decide)) dX10_habit_82 ?_
          refine lv_cgi (y := (nI (ck i))) (by rw [nn_at (F 18) (by omega), hc3]) ?_
          refine lv_imul hx hb dX10_habit_83 ?_
          refine lv_cgi (y := (nI (rd i * ck i))) (by rw [pk_mul]) ?_
          refine lv_i2l hx hb dX10_habit_84 rfl ?_
          refine lv_cgl (y := (lN (rd i * ck i))) (nI_l (by omega)) ?_
          refine lv_ladd hx hb dX10_habit_85 ?_
          refine lv_cgl (y := (lN (a + rd i * ck i))) (lN_add _ _) ?_
          refine lv_lstore_n (lv' := [(3, .long (lN (a + rd i * ck i))), (0, .ref (ad 0)), (1, .int stick), (2, .int wh), (5, .long (lN b)), (7, .int (nI i))]) hx hb dX10_habit_86 rfl hl (by decide) rfl (fun ls hl => ?_)
          refine lv_lload hx hb dX10_habit_87 (lv_at hl 4 rfl) ?_
          refine lv_aload_n hx hb dX10_habit_89 rfl (lv_at hl 1 rfl) ?_
          refine r_get C h 0 rfl (Cn := RX10) (T := TX10) (N := 50) rfl hinX10 18 (by decide) (index := 62) (ref := "ScaleHouseModel") wd2 rfl (v := .ref (ad 18)) rfl dX10_habit_90 ?_
          refine lv_iload hx hb dX10_habit_93 (lv_at hl 5 rfl) ?_
          refine r_iald C h 18 rfl (i := (nI i)) (vp_in_nI (by omega) (by decide)) dX10_habit_95 ?_
          refine lv_cgi (y := (nI (ck i))) (by rw [nn_at (F 18) (by omega), hc3]) ?_
          refine lv_aload_n hx hb dX10_habit_96 rfl (lv_at hl 1 rfl) ?_
          refine r_get C h 0 rfl (Cn := RX10) (T := TX10) (N := 50) rfl hinX10 18 (by decide) (index := 62) (ref := "ScaleHouseModel") wd2 rfl (v := .ref (ad 18)) rfl dX10_habit_97 ?_
          refine lv_iload hx hb dX10_habit_100 (lv_at hl 5 rfl) ?_
          refine r_iald C h 18 rfl (i := (nI i)) (vp_in_nI (by omega) (by decide)) dX10_habit_102 ?_
          refine lv_cgi (y := (nI (ck i))) (by rw [nn_at (F 18) (by omega), hc3]) ?_
          refine lv_imul hx hb dX10_habit_103 ?_
          refine lv_cgi (y := (nI (ck i * ck i))) (by rw [pk_mul]) ?_
          refine lv_i2l hx hb dX10_habit_104 rfl ?_
          refine lv_cgl (y := (lN (ck i * ck i))) (nI_l (by omega)) ?_
          refine lv_ladd hx hb dX10_habit_105 ?_
          refine lv_cgl (y := (lN (b + ck i * ck i))) (lN_add _ _) ?_
          refine lv_lstore (lv' := [(5, .long (lN (b + ck i * ck i))), (3, .long (lN (a + rd i * ck i))), (0, .ref (ad 0)), (1, .int stick), (2, .int wh), (7, .int (nI i))]) hx hb dX10_habit_106 hl (by decide) rfl (fun ls hl => ?_)
          refine lv_iinc (v := nI (i + 1)) (lv' := [(7, .int (nI (i + 1))), (5, .long (lN (b + ck i * ck i))), (3, .long (lN (a + rd i * ck i))), (0, .ref (ad 0)), (1, .int stick), (2, .int wh)]) hx hb dX10_habit_108 hl (k := 5) rfl (nI_1 _) (by decide) rfl (fun ls hl => ?_)
          refine lv_goto (tgt := 35) hx hb dX10_habit_111 (by decide) ?_
          exact ih (i + 1) (a + rd i * ck i) (b + ck i * ck i) _ _ ls (by omega) (by rw [← hza, hSum, if_pos d52, Nat.add_assoc]) (by rw [← hzb, hSum, if_pos d52, Nat.add_assoc]) h (lv_sub hl [3, 4, 5, 2, 1, 0] rfl)
        · have d62 : ck i = 0 := nI_inj2 (b := 0) c_62 (by omega) (by decide)
          refine lv_goto (tgt := 108) hx hb dX10_habit_65 (by decide) ?_
          refine lv_iinc (v := nI (i + 1)) (lv' := [(7, .int (nI (i + 1))), (0, .ref (ad 0)), (1, .int stick), (2, .int wh), (3, .long (lN a)), (5, .long (lN b))]) hx hb dX10_habit_108 hl (k := 5) rfl (nI_1 _) (by decide) rfl (fun ls hl => ?_)
          refine lv_goto (tgt := 35) hx hb dX10_habit_111 (by decide) ?_
          exact ih (i + 1) a b _ _ ls (by omega) (by rw [← hza, hSum, if_pos d52]; simp only [d62, Nat.mul_zero, Nat.zero_add]) (by rw [← hzb, hSum, if_pos d52]; simp only [d62, Nat.mul_zero, Nat.zero_add]) h (lv_sub hl [1, 2, 3, 4, 5, 0] rfl)

set_option maxHeartbeats 4000000 in
set_option maxRecDepth 100000 in
theorem lp_X10_habit2 {p : Program} {l : Launch} {e : Env} {R : Room} {s : State} {m : MethodId} {args : Array Value} {below : List Frame} {meth : Method} {c : Code} {cells slots : Nat} {Q : State → Prop} {G : gG} {A : Nat → Prop} (C : gC p m c cX10_habit 13 s args wsX10_habit RX10 G A) (ad : Nat → Nat) (I : Nat → Int32) (F : Nat → Nat → Int32) (rw : Nat) (gd gl : Int64) (wh : Int32) (za zb g : Nat) (kx : ∀ (H : Heap) (locs : List Loc) (ls : Array Slot), gS G A s (mW G ad I F rw gd gl) H locs → lv_has ls 13 [(2, .int wh), (3, .long (lN za)), (5, .long (lN zb)), (7, .long (lN g))] → W p l e R s m args below meth c H locs cells slots Q (F0 m 157 ls [])) :
    ∀ (r : Nat) (x y : Nat) (H : Heap) (locs : List Loc) (ls : Array Slot), (y < r) → (x < 2 ^ 31) → (y < 2 ^ 31) → (Nat.gcd y x = g) →  gS G A s (mW G ad I F rw gd gl) H locs → lv_has ls 13 [(2, .int wh), (3, .long (lN za)), (5, .long (lN zb)), (7, .long (lN x)), (9, .long (lN y))] → W p l e R s m args below meth c H locs cells slots Q (F0 m 132 ls []) := by
  have hx := C.1.1.1
  have hb := C.1.1.2.1
  intro r
  induction r with
  | zero =>
    intro x y H locs ls hf hx2 hy2 hg h hl
    exact absurd hf (Nat.not_lt_zero _)
  | succ r ih =>
    intro x y H locs ls hf hx2 hy2 hg h hl
    refine lv_lload hx hb dX10_habit_132 (lv_at hl 4 rfl) ?_
    refine lv_lconst (v := 0) hx hb dX10_habit_134 (by decide) ?_
    refine W.lcmp hx hb dX10_habit_135 ?_
    refine lv_if_eq (tgt := 157) hx hb dX10_habit_136 (by decide) (fun c_136 => ?_) (fun c_136 => ?_)
    · rw [lg_cmp_eq] at c_136
      have e136 : y = 0 := (pk_lEQ (b := 0) (by omega) (by decide)).mp c_136
      subst e136
      obtain rfl : x = g := by rw [Nat.gcd_zero_left] at hg; exact hg
      exact kx _ _ ls h (lv_sub hl [0, 1, 2, 3] rfl)
    · rw [lg_cmp_eq] at c_136
      have e136 : ¬ y = 0 := fun z9 => c_136 (by rw [z9]; rfl)
      have hml := Nat.mod_lt x (show 0 < y by omega)
      refine lv_lload hx hb dX10_habit_139 (lv_at hl 3 rfl) ?_
      refine lv_lload hx hb dX10_habit_141 (lv_at hl 4 rfl) ?_
      refine lv_lrem hx hb dX10_habit_143 (c_136) ?_
      refine lv_cgl (y := (lN (x % y))) (pk_lRem (by omega) (by omega) (by omega)) ?_
      refine lv_lstore (lv' := [(11, .long (lN (x % y))), (2, .int wh), (3, .long (lN za)), (5, .long (lN zb)), (7, .long (lN x)), (9, .long (lN y))]) hx hb dX10_habit_144 hl (by decide) rfl (fun ls hl => ?_)
      refine lv_lload hx hb dX10_habit_146 (lv_at hl 5 rfl) ?_
      refine lv_lstore (lv' := [(7, .long (lN y)), (11, .long (lN (x % y))), (2, .int wh), (3, .long (lN za)), (5, .long (lN zb)), (9, .long (lN y))]) hx hb dX10_habit_148 hl (by decide) rfl (fun ls hl => ?_)
      refine lv_lload hx hb dX10_habit_150 (lv_at hl 1 rfl) ?_
      refine lv_lstore (lv' := [(9, .long (lN (x % y))), (7, .long (lN y)), (11, .long (lN (x % y))), (2, .int wh), (3, .long (lN za)), (5, .long (lN zb))]) hx hb dX10_habit_152 hl (by decide) rfl (fun ls hl => ?_)
      refine lv_goto (tgt := 132) hx hb dX10_habit_154 (by decide) ?_
      exact ih y (x % y) _ _ ls (by omega) (by omega) (by omega) (by rw [← hg]; exact (Nat.gcd_rec y x).symm) h (lv_sub hl [3, 4, 5, 1, 0] rfl)

set_option maxHeartbeats 4000000 in
set_option maxRecDepth 100000 in
theorem m_habit (l : Launch) (G : gG) (ad : Nat → Nat) (I : Nat → Int32) (F : Nat → Nat → Int32) (rw : Nat) (gd gl : Int64) (rd ck : Nat → Nat) (ng : Nat) (hng : I 27 = nI ng) (hng2 : ng ≤ 100) (hrc : mRc F rd ck ng) (stick wh : Int32) : cM l yX10_habit wsX10_habit 2 60 (0) (0) G [.ref (ad 0), .int stick, .int wh] (mW G ad I F rw gd gl) (qL G (S := Unit) (fun r _ => r = mHab F rd ck ng stick wh) (fun _ => mW G ad (upd I 0 0) F rw gd gl)) := by
  refine o_M (cc := cX10_habit) (maxL := 13) (ret := (some .long)) (own := RX10) (by decide +kernel) rfl rfl (Nat.le_of_ble_eq_true rfl) ?_
  intro p e s m below meth c A ls H locs hA C h hr hlk hnm hl
  have hx := C.1.1.1
  have hb := C.1.1.2.1
  have hl : lv_has ls 13 [(0, .ref (ad 0)), (1, .int stick), (2, .int wh)] := hl
  have wd0 : Cond.fieldLink RX10 106 "ScaleHouseModel" "thrown" "I" ∈ wsX10_habit := by decide +kernel
  have hinX10 : ∀ w ∈ wsX100, w ∈ wsX10_habit := fun _ h => List.mem_cons_of_mem _ (List.mem_append_right _ h)
  have wd1 : Cond.constantLong RX10 248 (-1) ∈ wsX10_habit := by decide +kernel
  have hba := hSum_le (hP F stick) (fun i => rd i * ck i) 9801 ng (fun i hi => sq_le (hrc i hi).2.1 (hrc i hi).2.2.2) ng 0 (Nat.zero_add _)
  have hbb := hSum_le (hP F stick) (fun i => ck i * ck i) 9801 ng (fun i hi => sq_le (hrc i hi).2.2.2 (hrc i hi).2.2.2) ng 0 (Nat.zero_add _)
  refine lv_aload_n hx hb dX10_habit_0 rfl (lv_at hl 0 rfl) ?_
  refine lv_iconst (v := 0) hx hb dX10_habit_1 (by decide) ?_
  refine r_put C h 0 rfl (Cn := RX10) (T := TX10) (N := 50) rfl hinX10 tyX10 tyX10_ok nmX10 0 (by decide) (index := 106) (ref := "ScaleHouseModel") wd0 rfl rfl (v := .int 0) rfl rfl (show 0 < 50 by decide) dX10_habit_2 (fun H locs h => ?_)
  have h : gS G A s (mW G ad (upd I 0 0) F rw gd gl) H locs := h
  refine lv_iload_n hx hb dX10_habit_5 rfl (lv_at hl 1 rfl) ?_
  refine lv_iconst (v := 0) hx hb dX10_habit_6 (by decide) ?_
  refine lv_iconst (v := 5) hx hb dX10_habit_7 (by decide) ?_
  have hp : List.Perm (mW G ad (upd I 0 0) F rw gd gl : va_W) ([] ++ ([((ad 0), .inr (10, [.int 0, .ref (ad 1), .ref (ad 2), .ref (ad 3), .ref (ad 4), .ref (ad 5), .ref (ad 6), .ref (ad 7), .ref (ad 8), .ref (ad 9), .ref (ad 10), .ref (ad 11), .ref (ad 12), .ref (ad 13), .ref (ad 14), .ref (ad 15), .ref (ad 16), .ref (ad 17), .ref (ad 18), .ref (ad 19), .ref (ad 20), .ref (ad 21), .ref (ad 22), .int (I 23), .int (I 24), .int (I 25), .int (I 26), .int (I 27), .int (I 28), .int (I 29), .ref rw, .int (I 31), .int (I 32), .int (I 33), .int (I 34), .int (I 35), .long gd, .long gl, .ref (ad 38), .ref (ad 39), .ref (ad 40), .ref (ad 41), .ref (ad 42), .ref (ad 43), .int (I 44), .int (I 45), .int (I 46), .int (I 47), .int (I 48), .int (I 49)])), ((ad 1), .inl (G.2.2 0, 120, .inl (F 1))), ((ad 2), .inl (G.2.2 0, 2400, .inl (F 2))), ((ad 3), .inl (G.2.2 1, 20, .inl (F 3))), ((ad 4), .inl (G.2.2 1, 20, .inl (F 4))), ((ad 5), .inl (G.2.2 1, 20, .inl (F 5))), ((ad 6), .inl (G.2.2 1, 60, .inl (F 6))), ((ad 7), .inl (G.2.2 1, 60, .inl (F 7))), ((ad 8), .inl (G.2.2 1, 60, .inl (F 8))), ((ad 9), .inl (G.2.2 1, 60, .inl (F 9))), ((ad 10), .inl (G.2.2 1, 100, .inl (F 10))), ((ad 11), .inl (G.2.2 1, 100, .inl (F 11))), ((ad 12), .inl (G.2.2 1, 100, .inl (F 12))), ((ad 13), .inl (G.2.2 1, 100, .inl (F 13))), ((ad 14), .inl (G.2.2 1, 100, .inl (F 14))), ((ad 15), .inl (G.2.2 1, 100, .inl (F 15))), ((ad 16), .inl (G.2.2 1, 100, .inl (F 16))), ((ad 17), .inl (G.2.2 1, 100, .inl (F 17))), ((ad 18), .inl (G.2.2 1, 100, .inl (F 18))), ((ad 19), .inl (G.2.2 1, 6, .inl (F 19))), ((ad 20), .inl (G.2.2 1, 20000, .inl (F 20))), ((ad 21), .inl (G.2.2 1, 20000, .inl (F 21))), ((ad 22), .inl (G.2.2 1, 20000, .inl (F 22))), ((ad 38), .inl (G.2.2 1, 40, .inl (F 38))), ((ad 39), .inl (G.2.2 1, 40, .inl (F 39))), ((ad 40), .inl (G.2.2 1, 2, .inl (F 40))), ((ad 41), .inl (G.2.2 1, 20, .inl (F 41))), ((ad 42), .inl (G.2.2 3, 20, .inl (F 42))), ((ad 43), .inl (G.2.2 3, 20, .inl (F 43)))])) := List.Perm.refl _
  refine k_i C h hp (r_runS C h hp (As := [.int stick, .int 0, .int 5]) (rest := []) (m_isIn l G stick 0 5) (va_cwS 3 C.1.1.2.2.2.2 gX10_habit_X10_isIn rfl rfl rfl (by decide +kernel) ⟨Nat.le_of_ble_eq_true rfl, Nat.le_of_ble_eq_true rfl⟩) rfl hl.1 (Nat.le_of_ble_eq_true rfl) dX10_habit_8 ⟨Nat.le_of_ble_eq_true rfl, Nat.le_of_ble_eq_true rfl⟩) (fun r_1 u_2 H locs hw_3 h => ?_)
  have h : gS G A s (mW G ad (upd I 0 0) F rw gd gl) H locs := h
  refine W.widen (k := 0) (n := 0) (Nat.le_of_ble_eq_true rfl) (Nat.le_of_ble_eq_true rfl) ?_
  subst hw_3
  refine lv_if_eq (tgt := 23) hx hb dX10_habit_11 (by decide) (fun c_11 => ?_) (fun c_11 => ?_)
  · refine r_ldc2 C (v := -1) wd1 dX10_habit_23 ?_
    exact r_lret C h hr hlk (Nat.zero_le _) (Nat.zero_le _) () (by simp only [mHab, if_pos c_11]) (rfl) dX10_habit_26
  · refine lv_iload_n hx hb dX10_habit_14 rfl (lv_at hl 2 rfl) ?_
    refine lv_iconst (v := 0) hx hb dX10_habit_15 (by decide) ?_
    refine lv_iconst (v := 1) hx hb dX10_habit_16 (by decide) ?_
    have hp : List.Perm (mW G ad (upd I 0 0) F rw gd gl : va_W) ([] ++ ([((ad 0), .inr (10, [.int 0, .ref (ad 1), .ref (ad 2), .ref (ad 3), .ref (ad 4), .ref (ad 5), .ref (ad 6), .ref (ad 7), .ref (ad 8), .ref (ad 9), .ref (ad 10), .ref (ad 11), .ref (ad 12), .ref (ad 13), .ref (ad 14), .ref (ad 15), .ref (ad 16), .ref (ad 17), .ref (ad 18), .ref (ad 19), .ref (ad 20), .ref (ad 21), .ref (ad 22), .int (I 23), .int (I 24), .int (I 25), .int (I 26), .int (I 27), .int (I 28), .int (I 29), .ref rw, .int (I 31), .int (I 32), .int (I 33), .int (I 34), .int (I 35), .long gd, .long gl, .ref (ad 38), .ref (ad 39), .ref (ad 40), .ref (ad 41), .ref (ad 42), .ref (ad 43), .int (I 44), .int (I 45), .int (I 46), .int (I 47), .int (I 48), .int (I 49)])), ((ad 1), .inl (G.2.2 0, 120, .inl (F 1))), ((ad 2), .inl (G.2.2 0, 2400, .inl (F 2))), ((ad 3), .inl (G.2.2 1, 20, .inl (F 3))), ((ad 4), .inl (G.2.2 1, 20, .inl (F 4))), ((ad 5), .inl (G.2.2 1, 20, .inl (F 5))), ((ad 6), .inl (G.2.2 1, 60, .inl (F 6))), ((ad 7), .inl (G.2.2 1, 60, .inl (F 7))), ((ad 8), .inl (G.2.2 1, 60, .inl (F 8))), ((ad 9), .inl (G.2.2 1, 60, .inl (F 9))), ((ad 10), .inl (G.2.2 1, 100, .inl (F 10))), ((ad 11), .inl (G.2.2 1, 100, .inl (F 11))), ((ad 12), .inl (G.2.2 1, 100, .inl (F 12))), ((ad 13), .inl (G.2.2 1, 100, .inl (F 13))), ((ad 14), .inl (G.2.2 1, 100, .inl (F 14))), ((ad 15), .inl (G.2.2 1, 100, .inl (F 15))), ((ad 16), .inl (G.2.2 1, 100, .inl (F 16))), ((ad 17), .inl (G.2.2 1, 100, .inl (F 17))), ((ad 18), .inl (G.2.2 1, 100, .inl (F 18))), ((ad 19), .inl (G.2.2 1, 6, .inl (F 19))), ((ad 20), .inl (G.2.2 1, 20000, .inl (F 20))), ((ad 21), .inl (G.2.2 1, 20000, .inl (F 21))), ((ad 22), .inl (G.2.2 1, 20000, .inl (F 22))), ((ad 38), .inl (G.2.2 1, 40, .inl (F 38))), ((ad 39), .inl (G.2.2 1, 40, .inl (F 39))), ((ad 40), .inl (G.2.2 1, 2, .inl (F 40))), ((ad 41), .inl (G.2.2 1, 20, .inl (F 41))), ((ad 42), .inl (G.2.2 3, 20, .inl (F 42))), ((ad 43), .inl (G.2.2 3, 20, .inl (F 43)))])) := List.Perm.refl _
    refine k_i C h hp (r_runS C h hp (As := [.int wh, .int 0, .int 1]) (rest := []) (m_isIn l G wh 0 1) (va_cwS 3 C.1.1.2.2.2.2 gX10_habit_X10_isIn rfl rfl rfl (by decide +kernel) ⟨Nat.le_of_ble_eq_true rfl, Nat.le_of_ble_eq_true rfl⟩) rfl hl.1 (Nat.le_of_ble_eq_true rfl) dX10_habit_17 ⟨Nat.le_of_ble_eq_true rfl, Nat.le_of_ble_eq_true rfl⟩) (fun r_4 u_5 H locs hw_6 h => ?_)
    have h : gS G A s (mW G ad (upd I 0 0) F rw gd gl) H locs := h
    refine W.widen (k := 0) (n := 0) (Nat.le_of_ble_eq_true rfl) (Nat.le_of_ble_eq_true rfl) ?_
    subst hw_6
    refine lv_if_ne (tgt := 27) hx hb dX10_habit_20 (by decide) (fun c_20 => ?_) (fun c_20 => ?_)
    · refine lv_lconst (v := 0) hx hb dX10_habit_27 (by decide) ?_
      refine lv_cgl (y := (lN 0)) (rfl) ?_
      refine lv_lstore_n (lv' := [(3, .long (lN 0)), (0, .ref (ad 0)), (1, .int stick), (2, .int wh)]) hx hb dX10_habit_28 rfl hl (by decide) rfl (fun ls hl => ?_)
      refine lv_lconst (v := 0) hx hb dX10_habit_29 (by decide) ?_
      refine lv_cgl (y := (lN 0)) (rfl) ?_
      refine lv_lstore (lv' := [(5, .long (lN 0)), (3, .long (lN 0)), (0, .ref (ad 0)), (1, .int stick), (2, .int wh)]) hx hb dX10_habit_30 hl (by decide) rfl (fun ls hl => ?_)
      refine lv_iconst (v := 0) hx hb dX10_habit_32 (by decide) ?_
      refine lv_istore (lv' := [(7, .int 0), (5, .long (lN 0)), (3, .long (lN 0)), (0, .ref (ad 0)), (1, .int stick), (2, .int wh)]) hx hb dX10_habit_33 hl (by decide) rfl (fun ls hl => ?_)
      refine lp_X10_habit1 C ad (upd I 0 0) F rw gd gl rd ck ng hng hng2 hrc stick wh (hSum (hP F stick) (fun i => rd i * ck i) ng 0) (hSum (hP F stick) (fun i => ck i * ck i) ng 0) (fun H locs ls h hl => ?_) ng 0 0 0 _ _ ls (Nat.zero_add _) (Nat.zero_add _) (Nat.zero_add _) h (lv_sub hl [3, 4, 5, 2, 1, 0] rfl)
      refine lv_lload hx hb dX10_habit_114 (lv_at hl 4 rfl) ?_
      refine lv_lconst (v := 0) hx hb dX10_habit_116 (by decide) ?_
      refine W.lcmp hx hb dX10_habit_117 ?_
      refine lv_if_ne (tgt := 125) hx hb dX10_habit_118 (by decide) (fun c_118 => ?_) (fun c_118 => ?_)
      · rw [lg_cmp_eq] at c_118
        have d118 : ¬ (hSum (hP F stick) (fun i => ck i * ck i) ng 0) = 0 := fun z9 => c_118 (by rw [z9]; rfl)
        have hgp := Nat.gcd_pos_of_pos_left (hSum (hP F stick) (fun i => rd i * ck i) ng 0) (Nat.pos_of_ne_zero d118)
        have hgl := Nat.le_of_dvd (Nat.pos_of_ne_zero d118) (Nat.gcd_dvd_left (hSum (hP F stick) (fun i => ck i * ck i) ng 0) (hSum (hP F stick) (fun i => rd i * ck i) ng 0))
        refine lv_lload_n hx hb dX10_habit_125 rfl (lv_at hl 3 rfl) ?_
        refine lv_lstore (lv' := [(7, .long (lN (hSum (hP F stick) (fun i => rd i * ck i) ng 0))), (0, .ref (ad 0)), (1, .int stick), (2, .int wh), (3, .long (lN (hSum (hP F stick) (fun i => rd i * ck i) ng 0))), (5, .long (lN (hSum (hP F stick) (fun i => ck i * ck i) ng 0)))]) hx hb dX10_habit_126 hl (by decide) rfl (fun ls hl => ?_)
        refine lv_lload hx hb dX10_habit_128 (lv_at hl 5 rfl) ?_
        refine lv_lstore (lv' := [(9, .long (lN (hSum (hP F stick) (fun i => ck i * ck i) ng 0))), (7, .long (lN (hSum (hP F stick) (fun i => rd i * ck i) ng 0))), (0, .ref (ad 0)), (1, .int stick), (2, .int wh), (3, .long (lN (hSum (hP F stick) (fun i => rd i * ck i) ng 0))), (5, .long (lN (hSum (hP F stick) (fun i => ck i * ck i) ng 0)))]) hx hb dX10_habit_130 hl (by decide) rfl (fun ls hl => ?_)
        refine lp_X10_habit2 C ad (upd I 0 0) F rw gd gl wh (hSum (hP F stick) (fun i => rd i * ck i) ng 0) (hSum (hP F stick) (fun i => ck i * ck i) ng 0) (Nat.gcd (hSum (hP F stick) (fun i => ck i * ck i) ng 0) (hSum (hP F stick) (fun i => rd i * ck i) ng 0)) (fun H locs ls h hl => ?_) ((hSum (hP F stick) (fun i => ck i * ck i) ng 0) + 1) (hSum (hP F stick) (fun i => rd i * ck i) ng 0) (hSum (hP F stick) (fun i => ck i * ck i) ng 0) _ _ ls (Nat.lt_succ_self _) (by omega) (by omega) rfl h (lv_sub hl [4, 5, 6, 1, 0] rfl)
        refine lv_iload_n hx hb dX10_habit_157 rfl (lv_at hl 0 rfl) ?_
        refine lv_if_ne (tgt := 168) hx hb dX10_habit_158 (by decide) (fun c_158 => ?_) (fun c_158 => ?_)
        · refine lv_lload hx hb dX10_habit_168 (lv_at hl 2 rfl) ?_
          refine lv_lload hx hb dX10_habit_170 (lv_at hl 3 rfl) ?_
          refine lv_ldiv hx hb dX10_habit_172 (fun z9 => by have := (pk_lEQ (b := 0) (by omega) (by decide)).mp z9; omega) ?_
          refine lv_cgl (y := (lN ((hSum (hP F stick) (fun i => ck i * ck i) ng 0) / (Nat.gcd (hSum (hP F stick) (fun i => ck i * ck i) ng 0) (hSum (hP F stick) (fun i => rd i * ck i) ng 0))))) (pk_lDiv (by omega) (by omega) (by omega)) ?_
          exact r_lret C h hr hlk (Nat.zero_le _) (Nat.zero_le _) () (by simp only [mHab, if_neg c_11, if_neg c_20, if_neg d118, if_neg c_158]) (rfl) dX10_habit_173
        · refine lv_lload_n hx hb dX10_habit_161 rfl (lv_at hl 1 rfl) ?_
          refine lv_lload hx hb dX10_habit_162 (lv_at hl 3 rfl) ?_
          refine lv_ldiv hx hb dX10_habit_164 (fun z9 => by have := (pk_lEQ (b := 0) (by omega) (by decide)).mp z9; omega) ?_
          refine lv_cgl (y := (lN ((hSum (hP F stick) (fun i => rd i * ck i) ng 0) / (Nat.gcd (hSum (hP F stick) (fun i => ck i * ck i) ng 0) (hSum (hP F stick) (fun i => rd i * ck i) ng 0))))) (pk_lDiv (by omega) (by omega) (by omega)) ?_
          refine lv_goto (tgt := 173) hx hb dX10_habit_165 (by decide) ?_
          exact r_lret C h hr hlk (Nat.zero_le _) (Nat.zero_le _) () (by simp only [mHab, if_neg c_11, if_neg c_20, if_neg d118, if_pos c_158]) (rfl) dX10_habit_173
      · rw [lg_cmp_eq] at c_118
        have d118 : (hSum (hP F stick) (fun i => ck i * ck i) ng 0) = 0 := (pk_lEQ (b := 0) (by omega) (by decide)).mp c_118
        refine r_ldc2 C (v := -1) wd1 dX10_habit_121 ?_
        exact r_lret C h hr hlk (Nat.zero_le _) (Nat.zero_le _) () (by simp only [mHab, if_neg c_11, if_neg c_20, if_pos d118]) (rfl) dX10_habit_124
    · refine r_ldc2 C (v := -1) wd1 dX10_habit_23 ?_
      exact r_lret C h hr hlk (Nat.zero_le _) (Nat.zero_le _) () (by simp only [mHab, if_neg c_11, if_pos c_20]) (rfl) dX10_habit_26
