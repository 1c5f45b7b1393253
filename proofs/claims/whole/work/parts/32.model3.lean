def mCt (v : Int32) : Nat → Nat
  | 0 => 0
  | k + 1 => (if mB v (nI (8 * k)) = 0 then 0 else 1) + mCt v k
theorem mBi_ct (v : Int32) : ∀ (k a : Nat), mBi v k (nI a) = nI (a + mCt v k)
  | 0, a => rfl
  | k + 1, a => by
    rw [mBi, mCt]
    split
    · rw [show (nI a + 0 : Int32) = nI a from Int32.add_zero _, mBi_ct v k a]; congr 1; omega
    · rw [nI_1, mBi_ct v k (a + 1)]; congr 1; omega
theorem mPu_ct (v : Int32) : ∀ (k : Nat) (f : Nat → Int32) (n : Nat), (mPu v k f n).2 = n + mCt v k
  | 0, _, _ => rfl
  | k + 1, f, n => by
    rw [mPu, mCt]
    split
    · rw [mPu_ct v k]; omega
    · rw [mPu_ct v k]; omega
theorem mCt_le (v : Int32) : ∀ k, mCt v k ≤ k
  | 0 => Nat.le_refl 0
  | k + 1 => by
    rw [mCt]
    have := mCt_le v k
    split <;> omega
def mFd5 (f : Nat → Int32) (n : Nat) (a b c9 d e9 : Int32) (z : (Nat → Int32) × Nat) : Prop :=
  ∃ u1 u2 u3 u4 : (Nat → Int32) × Nat, u1 = mPu a 4 f n ∧ u2 = mPu b 4 u1.1 u1.2 ∧ u3 = mPu c9 4 u2.1 u2.2 ∧ u4 = mPu d 4 u3.1 u3.2 ∧ z = mPu e9 4 u4.1 u4.2
def mCt5 (a b c9 d e9 : Int32) : Nat := mCt a 4 + mCt b 4 + mCt c9 4 + mCt d 4 + mCt e9 4

set_option maxHeartbeats 4000000 in
set_option maxRecDepth 100000 in
theorem m_feed (l : Launch) (G : gG) (ad : Nat → Nat) (I : Nat → Int32) (F : Nat → Nat → Int32) (rw : Nat) (gd gl : Int64) (n : Nat) (f : Nat → Int32) (a b c9 d e9 : Int32) (hn : n ≤ 120) : cM l yX10_feed wsX10_feed 1 25 (0) (0) G [.ref (ad 0), .int a, .int b, .int c9, .int d, .int e9] (mW G ad (upd I 23 (nI n)) (va_up F 1 f) rw gd gl) (qI G (S := (Nat → Int32) × Nat) (fun r u => (n + mCt5 a b c9 d e9 ≤ 120 ∧ r = nI u.2 ∧ mFd5 f n a b c9 d e9 u) ∨ (¬ n + mCt5 a b c9 d e9 ≤ 120 ∧ r = -1 ∧ u = (f, n))) (fun u => mW G ad (upd (upd I 23 (nI u.2)) 0 0) (va_up F 1 u.1) rw gd gl)) := by
  refine o_M (cc := cX10_feed) (maxL := 6) (ret := (some .int)) (own := RX10) (by decide +kernel) rfl rfl (Nat.le_of_ble_eq_true rfl) ?_
  intro p e s m below meth c A ls H locs hA C h hr hlk hnm hl
  have hx := C.1.1.1
  have hb := C.1.1.2.1
  have hl : lv_has ls 6 [(0, .ref (ad 0)), (1, .int a), (2, .int b), (3, .int c9), (4, .int d), (5, .int e9)] := hl
  have wd0 : Cond.fieldLink RX10 106 "ScaleHouseModel" "thrown" "I" ∈ wsX10_feed := by decide +kernel
  have hinX10 : ∀ w ∈ wsX100, w ∈ wsX10_feed := fun _ h => List.mem_cons_of_mem _ (List.mem_append_right _ h)
  have wd1 : Cond.fieldLink RX10 109 "ScaleHouseModel" "length" "I" ∈ wsX10_feed := by decide +kernel
  have h5 : mCt5 a b c9 d e9 ≤ 20 := by simp only [mCt5]; have := mCt_le a 4; have := mCt_le b 4; have := mCt_le c9 4; have := mCt_le d 4; have := mCt_le e9 4; omega
  refine lv_aload_n hx hb dX10_feed_0 rfl (lv_at hl 0 rfl) ?_
  refine lv_iconst (v := 0) hx hb dX10_feed_1 (by decide) ?_
  refine r_put C h 0 rfl (Cn := RX10) (T := TX10) (N := 50) rfl hinX10 tyX10 tyX10_ok nmX10 0 (by decide) (index := 106) (ref := "ScaleHouseModel") wd0 rfl rfl (v := .int 0) rfl rfl (show 0 < 50 by decide) dX10_feed_2 (fun H locs h => ?_)
  have h : gS G A s (mW G ad (upd (upd I 23 (nI n)) 0 0) (va_up F 1 f) rw gd gl) H locs := h
  refine lv_aload_n hx hb dX10_feed_5 rfl (lv_at hl 0 rfl) ?_
  refine r_get C h 0 rfl (Cn := RX10) (T := TX10) (N := 50) rfl hinX10 23 (by decide) (index := 109) (ref := "ScaleHouseModel") wd1 rfl (v := .int (nI n)) rfl dX10_feed_6 ?_
  refine lv_iload_n hx hb dX10_feed_9 rfl (lv_at hl 1 rfl) ?_
  have hp : List.Perm (mW G ad (upd (upd I 23 (nI n)) 0 0) (va_up F 1 f) rw gd gl : va_W) ([] ++ ([((ad 0), .inr (10, [.int 0, .ref (ad 1), .ref (ad 2), .ref (ad 3), .ref (ad 4), .ref (ad 5), .ref (ad 6), .ref (ad 7), .ref (ad 8), .ref (ad 9), .ref (ad 10), .ref (ad 11), .ref (ad 12), .ref (ad 13), .ref (ad 14), .ref (ad 15), .ref (ad 16), .ref (ad 17), .ref (ad 18), .ref (ad 19), .ref (ad 20), .ref (ad 21), .ref (ad 22), .int (nI n), .int (I 24), .int (I 25), .int (I 26), .int (I 27), .int (I 28), .int (I 29), .ref rw, .int (I 31), .int (I 32), .int (I 33), .int (I 34), .int (I 35), .long gd, .long gl, .ref (ad 38), .ref (ad 39), .ref (ad 40), .ref (ad 41), .ref (ad 42), .ref (ad 43), .int (I 44), .int (I 45), .int (I 46), .int (I 47), .int (I 48), .int (I 49)])), ((ad 1), .inl (G.2.2 0, 120, .inl f)), ((ad 2), .inl (G.2.2 0, 2400, .inl (F 2))), ((ad 3), .inl (G.2.2 1, 20, .inl (F 3))), ((ad 4), .inl (G.2.2 1, 20, .inl (F 4))), ((ad 5), .inl (G.2.2 1, 20, .inl (F 5))), ((ad 6), .inl (G.2.2 1, 60, .inl (F 6))), ((ad 7), .inl (G.2.2 1, 60, .inl (F 7))), ((ad 8), .inl (G.2.2 1, 60, .inl (F 8))), ((ad 9), .inl (G.2.2 1, 60, .inl (F 9))), ((ad 10), .inl (G.2.2 1, 100, .inl (F 10))), ((ad 11), .inl (G.2.2 1, 100, .inl (F 11))), ((ad 12), .inl (G.2.2 1, 100, .inl (F 12))), ((ad 13), .inl (G.2.2 1, 100, .inl (F 13))), ((ad 14), .inl (G.2.2 1, 100, .inl (F 14))), ((ad 15), .inl (G.2.2 1, 100, .inl (F 15))), ((ad 16), .inl (G.2.2 1, 100, .inl (F 16))), ((ad 17), .inl (G.2.2 1, 100, .inl (F 17))), ((ad 18), .inl (G.2.2 1, 100, .inl (F 18))), ((ad 19), .inl (G.2.2 1, 6, .inl (F 19))), ((ad 20), .inl (G.2.2 1, 20000, .inl (F 20))), ((ad 21), .inl (G.2.2 1, 20000, .inl (F 21))), ((ad 22), .inl (G.2.2 1, 20000, .inl (F 22))), ((ad 38), .inl (G.2.2 1, 40, .inl (F 38))), ((ad 39), .inl (G.2.2 1, 40, .inl (F 39))), ((ad 40), .inl (G.2.2 1, 2, .inl (F 40))), ((ad 41), .inl (G.2.2 1, 20, .inl (F 41))), ((ad 42), .inl (G.2.2 3, 20, .inl (F 42))), ((ad 43), .inl (G.2.2 3, 20, .inl (F 43)))])) := List.Perm.refl _
  refine k_i C h hp (r_runS C h hp (As := [.int a]) (rest := [.int (nI n)]) (m_bytesIn l G a) (va_cwS 1 C.1.1.2.2.2.2 gX10_feed_X10_bytesIn rfl rfl rfl (by decide +kernel) ⟨Nat.le_of_ble_eq_true rfl, Nat.le_of_ble_eq_true rfl⟩) rfl hl.1 (Nat.le_of_ble_eq_true rfl) dX10_feed_10 ⟨Nat.le_of_ble_eq_true rfl, Nat.le_of_ble_eq_true rfl⟩) (fun r_1 u_2 H locs hw_3 h => ?_)
  have h : gS G A s (mW G ad (upd (upd I 23 (nI n)) 0 0) (va_up F 1 f) rw gd gl) H locs := h
  refine W.widen (k := 0) (n := 0) (Nat.le_of_ble_eq_true rfl) (Nat.le_of_ble_eq_true rfl) ?_
  subst hw_3
  refine lv_iadd hx hb dX10_feed_13 ?_
  refine lv_iload_n hx hb dX10_feed_14 rfl (lv_at hl 2 rfl) ?_
  have hp : List.Perm (mW G ad (upd (upd I 23 (nI n)) 0 0) (va_up F 1 f) rw gd gl : va_W) ([] ++ ([((ad 0), .inr (10, [.int 0, .ref (ad 1), .ref (ad 2), .ref (ad 3), .ref (ad 4), .ref (ad 5), .ref (ad 6), .ref (ad 7), .ref (ad 8), .ref (ad 9), .ref (ad 10), .ref (ad 11), .ref (ad 12), .ref (ad 13), .ref (ad 14), .ref (ad 15), .ref (ad 16), .ref (ad 17), .ref (ad 18), .ref (ad 19), .ref (ad 20), .ref (ad 21), .ref (ad 22), .int (nI n), .int (I 24), .int (I 25), .int (I 26), .int (I 27), .int (I 28), .int (I 29), .ref rw, .int (I 31), .int (I 32), .int (I 33), .int (I 34), .int (I 35), .long gd, .long gl, .ref (ad 38), .ref (ad 39), .ref (ad 40), .ref (ad 41), .ref (ad 42), .ref (ad 43), .int (I 44), .int (I 45), .int (I 46), .int (I 47), .int (I 48), .int (I 49)])), ((ad 1), .inl (G.2.2 0, 120, .inl f)), ((ad 2), .inl (G.2.2 0, 2400, .inl (F 2))), ((ad 3), .inl (G.2.2 1, 20, .inl (F 3))), ((ad 4), .inl (G.2.2 1, 20, .inl (F 4))), ((ad 5), .inl (G.2.2 1, 20, .inl (F 5))), ((ad 6), .inl (G.2.2 1, 60, .inl (F 6))), ((ad 7), .inl (G.2.2 1, 60, .inl (F 7))), ((ad 8), .inl (G.2.2 1, 60, .inl (F 8))), ((ad 9), .inl (G.2.2 1, 60, .inl (F 9))), ((ad 10), .inl (G.2.2 1, 100, .inl (F 10))), ((ad 11), .inl (G.2.2 1, 100, .inl (F 11))), ((ad 12), .inl (G.2.2 1, 100, .inl (F 12))), ((ad 13), .inl (G.2.2 1, 100, .inl (F 13))), ((ad 14), .inl (G.2.2 1, 100, .inl (F 14))), ((ad 15), .inl (G.2.2 1, 100, .inl (F 15))), ((ad 16), .inl (G.2.2 1, 100, .inl (F 16))), ((ad 17), .inl (G.2.2 1, 100, .inl (F 17))), ((ad 18), .inl (G.2.2 1, 100, .inl (F 18))), ((ad 19), .inl (G.2.2 1, 6, .inl (F 19))), ((ad 20), .inl (G.2.2 1, 20000, .inl (F 20))), ((ad 21), .inl (G.2.2 1, 20000, .inl (F 21))), ((ad 22), .inl (G.2.2 1, 20000, .inl (F 22))), ((ad 38), .inl (G.2.2 1, 40, .inl (F 38))), ((ad 39), .inl (G.2.2 1, 40, .inl (F 39))), ((ad 40), .inl (G.2.2 1, 2, .inl (F 40))), ((ad 41), .inl (G.2.2 1, 20, .inl (F 41))), ((ad 42), .inl (G.2.2 3, 20, .inl (F 42))), ((ad 43), .inl (G.2.2 3, 20, .inl (F 43)))])) := List.Perm.refl _
  refine k_i C h hp (r_runS C h hp (As := [.int b]) (rest := [.int ((nI n) + (mBi a 4 0))]) (m_bytesIn l G b) (va_cwS 1 C.1.1.2.2.2.2 gX10_feed_X10_bytesIn rfl rfl rfl (by decide +kernel) ⟨Nat.le_of_ble_eq_true rfl, Nat.le_of_ble_eq_true rfl⟩) rfl hl.1 (Nat.le_of_ble_eq_true rfl) dX10_feed_15 ⟨Nat.le_of_ble_eq_true rfl, Nat.le_of_ble_eq_true rfl⟩) (fun r_4 u_5 H locs hw_6 h => ?_)
  have h : gS G A s (mW G ad (upd (upd I 23 (nI n)) 0 0) (va_up F 1 f) rw gd gl) H locs := h
  refine W.widen (k := 0) (n := 0) (Nat.le_of_ble_eq_true rfl) (Nat.le_of_ble_eq_true rfl) ?_
  subst hw_6
  refine lv_iadd hx hb dX10_feed_18 ?_
  refine lv_iload_n hx hb dX10_feed_19 rfl (lv_at hl 3 rfl) ?_
  have hp : List.Perm (mW G ad (upd (upd I 23 (nI n)) 0 0) (va_up F 1 f) rw gd gl : va_W) ([] ++ ([((ad 0), .inr (10, [.int 0, .ref (ad 1), .ref (ad 2), .ref (ad 3), .ref (ad 4), .ref (ad 5), .ref (ad 6), .ref (ad 7), .ref (ad 8), .ref (ad 9), .ref (ad 10), .ref (ad 11), .ref (ad 12), .ref (ad 13), .ref (ad 14), .ref (ad 15), .ref (ad 16), .ref (ad 17), .ref (ad 18), .ref (ad 19), .ref (ad 20), .ref (ad 21), .ref (ad 22), .int (nI n), .int (I 24), .int (I 25), .int (I 26), .int (I 27), .int (I 28), .int (I 29), .ref rw, .int (I 31), .int (I 32), .int (I 33), .int (I 34), .int (I 35), .long gd, .long gl, .ref (ad 38), .ref (ad 39), .ref (ad 40), .ref (ad 41), .ref (ad 42), .ref (ad 43), .int (I 44), .int (I 45), .int (I 46), .int (I 47), .int (I 48), .int (I 49)])), ((ad 1), .inl (G.2.2 0, 120, .inl f)), ((ad 2), .inl (G.2.2 0, 2400, .inl (F 2))), ((ad 3), .inl (G.2.2 1, 20, .inl (F 3))), ((ad 4), .inl (G.2.2 1, 20, .inl (F 4))), ((ad 5), .inl (G.2.2 1, 20, .inl (F 5))), ((ad 6), .inl (G.2.2 1, 60, .inl (F 6))), ((ad 7), .inl (G.2.2 1, 60, .inl (F 7))), ((ad 8), .inl (G.2.2 1, 60, .inl (F 8))), ((ad 9), .inl (G.2.2 1, 60, .inl (F 9))), ((ad 10), .inl (G.2.2 1, 100, .inl (F 10))), ((ad 11), .inl (G.2.2 1, 100, .inl (F 11))), ((ad 12), .inl (G.2.2 1, 100, .inl (F 12))), ((ad 13), .inl (G.2.2 1, 100, .inl (F 13))), ((ad 14), .inl (G.2.2 1, 100, .inl (F 14))), ((ad 15), .inl (G.2.2 1, 100, .inl (F 15))), ((ad 16), .inl (G.2.2 1, 100, .inl (F 16))), ((ad 17), .inl (G.2.2 1, 100, .inl (F 17))), ((ad 18), .inl (G.2.2 1, 100, .inl (F 18))), ((ad 19), .inl (G.2.2 1, 6, .inl (F 19))), ((ad 20), .inl (G.2.2 1, 20000, .inl (F 20))), ((ad 21), .inl (G.2.2 1, 20000, .inl (F 21))), ((ad 22), .inl (G.2.2 1, 20000, .inl (F 22))), ((ad 38), .inl (G.2.2 1, 40, .inl (F 38))), ((ad 39), .inl (G.2.2 1, 40, .inl (F 39))), ((ad 40), .inl (G.2.2 1, 2, .inl (F 40))), ((ad 41), .inl (G.2.2 1, 20, .inl (F 41))), ((ad 42), .inl (G.2.2 3, 20, .inl (F 42))), ((ad 43), .inl (G.2.2 3, 20, .inl (F 43)))])) := List.Perm.refl _
  refine k_i C h hp (r_runS C h hp (As := [.int c9]) (rest := [.int (((nI n) + (mBi a 4 0)) + (mBi b 4 0))]) (m_bytesIn l G c9) (va_cwS 1 C.1.1.2.2.2.2 gX10_feed_X10_bytesIn rfl rfl rfl (by decide +kernel) ⟨Nat.le_of_ble_eq_true rfl, Nat.le_of_ble_eq_true rfl⟩) rfl hl.1 (Nat.le_of_ble_eq_true rfl) dX10_feed_20 ⟨Nat.le_of_ble_eq_true rfl, Nat.le_of_ble_eq_true rfl⟩) (fun r_7 u_8 H locs hw_9 h => ?_)
  have h : gS G A s (mW G ad (upd (upd I 23 (nI n)) 0 0) (va_up F 1 f) rw gd gl) H locs := h
  refine W.widen (k := 0) (n := 0) (Nat.le_of_ble_eq_true rfl) (Nat.le_of_ble_eq_true rfl) ?_
  subst hw_9
  refine lv_iadd hx hb dX10_feed_23 ?_
  refine lv_iload hx hb dX10_feed_24 (lv_at hl 4 rfl) ?_
  have hp : List.Perm (mW G ad (upd (upd I 23 (nI n)) 0 0) (va_up F 1 f) rw gd gl : va_W) ([] ++ ([((ad 0), .inr (10, [.int 0, .ref (ad 1), .ref (ad 2), .ref (ad 3), .ref (ad 4), .ref (ad 5), .ref (ad 6), .ref (ad 7), .ref (ad 8), .ref (ad 9), .ref (ad 10), .ref (ad 11), .ref (ad 12), .ref (ad 13), .ref (ad 14), .ref (ad 15), .ref (ad 16), .ref (ad 17), .ref (ad 18), .ref (ad 19), .ref (ad 20), .ref (ad 21), .ref (ad 22), .int (nI n), .int (I 24), .int (I 25), .int (I 26), .int (I 27), .int (I 28), .int (I 29), .ref rw, .int (I 31), .int (I 32), .int (I 33), .int (I 34), .int (I 35), .long gd, .long gl, .ref (ad 38), .ref (ad 39), .ref (ad 40), .ref (ad 41), .ref (ad 42), .ref (ad 43), .int (I 44), .int (I 45), .int (I 46), .int (I 47), .int (I 48), .int (I 49)])), ((ad 1), .inl (G.2.2 0, 120, .inl f)), ((ad 2), .inl (G.2.2 0, 2400, .inl (F 2))), ((ad 3), .inl (G.2.2 1, 20, .inl (F 3))), ((ad 4), .inl (G.2.2 1, 20, .inl (F 4))), ((ad 5), .inl (G.2.2 1, 20, .inl (F 5))), ((ad 6), .inl (G.2.2 1, 60, .inl (F 6))), ((ad 7), .inl (G.2.2 1, 60, .inl (F 7))), ((ad 8), .inl (G.2.2 1, 60, .inl (F 8))), ((ad 9), .inl (G.2.2 1, 60, .inl (F 9))), ((ad 10), .inl (G.2.2 1, 100, .inl (F 10))), ((ad 11), .inl (G.2.2 1, 100, .inl (F 11))), ((ad 12), .inl (G.2.2 1, 100, .inl (F 12))), ((ad 13), .inl (G.2.2 1, 100, .inl (F 13))), ((ad 14), .inl (G.2.2 1, 100, .inl (F 14))), ((ad 15), .inl (G.2.2 1, 100, .inl (F 15))), ((ad 16), .inl (G.2.2 1, 100, .inl (F 16))), ((ad 17), .inl (G.2.2 1, 100, .inl (F 17))), ((ad 18), .inl (G.2.2 1, 100, .inl (F 18))), ((ad 19), .inl (G.2.2 1, 6, .inl (F 19))), ((ad 20), .inl (G.2.2 1, 20000, .inl (F 20))), ((ad 21), .inl (G.2.2 1, 20000, .inl (F 21))), ((ad 22), .inl (G.2.2 1, 20000, .inl (F 22))), ((ad 38), .inl (G.2.2 1, 40, .inl (F 38))), ((ad 39), .inl (G.2.2 1, 40, .inl (F 39))), ((ad 40), .inl (G.2.2 1, 2, .inl (F 40))), ((ad 41), .inl (G.2.2 1, 20, .inl (F 41))), ((ad 42), .inl (G.2.2 3, 20, .inl (F 42))), ((ad 43), .inl (G.2.2 3, 20, .inl (F 43)))])) := List.Perm.refl _
  refine k_i C h hp (r_runS C h hp (As := [.int d]) (rest := [.int ((((nI n) + (mBi a 4 0)) + (mBi b 4 0)) + (mBi c9 4 0))]) (m_bytesIn l G d) (va_cwS 1 C.1.1.2.2.2.2 gX10_feed_X10_bytesIn rfl rfl rfl (by decide +kernel) ⟨Nat.le_of_ble_eq_true rfl, Nat.le_of_ble_eq_true rfl⟩) rfl hl.1 (Nat.le_of_ble_eq_true rfl) dX10_feed_26 ⟨Nat.le_of_ble_eq_true rfl, Nat.le_of_ble_eq_true rfl⟩) (fun r_10 u_11 H locs hw_12 h => ?_)
  have h : gS G A s (mW G ad (upd (upd I 23 (nI n)) 0 0) (va_up F 1 f) rw gd gl) H locs := h
  refine W.widen (k := 0) (n := 0) (Nat.le_of_ble_eq_true rfl) (Nat.le_of_ble_eq_true rfl) ?_
  subst hw_12
  refine lv_iadd hx hb dX10_feed_29 ?_
  refine lv_iload hx hb dX10_feed_30 (lv_at hl 5 rfl) ?_
  have hp : List.Perm (mW G ad (upd (upd I 23 (nI n)) 0 0) (va_up F 1 f) rw gd gl : va_W) ([] ++ ([((ad 0), .inr (10, [.int 0, .ref (ad 1), .ref (ad 2), .ref (ad 3), .ref (ad 4), .ref (ad 5), .ref (ad 6), .ref (ad 7), .ref (ad 8), .ref (ad 9), .ref (ad 10), .ref (ad 11), .ref (ad 12), .ref (ad 13), .ref (ad 14), .ref (ad 15), .ref (ad 16), .ref (ad 17), .ref (ad 18), .ref (ad 19), .ref (ad 20), .ref (ad 21), .ref (ad 22), .int (nI n), .int (I 24), .int (I 25), .int (I 26), .int (I 27), .int (I 28), .int (I 29), .ref rw, .int (I 31), .int (I 32), .int (I 33), .int (I 34), .int (I 35), .long gd, .long gl, .ref (ad 38), .ref (ad 39), .ref (ad 40), .ref (ad 41), .ref (ad 42), .ref (ad 43), .int (I 44), .int (I 45), .int (I 46), .int (I 47), .int (I 48), .int (I 49)])), ((ad 1), .inl (G.2.2 0, 120, .inl f)), ((ad 2), .inl (G.2.2 0, 2400, .inl (F 2))), ((ad 3), .inl (G.2.2 1, 20, .inl (F 3))), ((ad 4), .inl (G.2.2 1, 20, .inl (F 4))), ((ad 5), .inl (G.2.2 1, 20, .inl (F 5))), ((ad 6), .inl (G.2.2 1, 60, .inl (F 6))), ((ad 7), .inl (G.2.2 1, 60, .inl (F 7))), ((ad 8), .inl (G.2.2 1, 60, .inl (F 8))), ((ad 9), .inl (G.2.2 1, 60, .inl (F 9))), ((ad 10), .inl (G.2.2 1, 100, .inl (F 10))), ((ad 11), .inl (G.2.2 1, 100, .inl (F 11))), ((ad 12), .inl (G.2.2 1, 100, .inl (F 12))), ((ad 13), .inl (G.2.2 1, 100, .inl (F 13))), ((ad 14), .inl (G.2.2 1, 100, .inl (F 14))), ((ad 15), .inl (G.2.2 1, 100, .inl (F 15))), ((ad 16), .inl (G.2.2 1, 100, .inl (F 16))), ((ad 17), .inl (G.2.2 1, 100, .inl (F 17))), ((ad 18), .inl (G.2.2 1, 100, .inl (F 18))), ((ad 19), .inl (G.2.2 1, 6, .inl (F 19))), ((ad 20), .inl (G.2.2 1, 20000, .inl (F 20))), ((ad 21), .inl (G.2.2 1, 20000, .inl (F 21))), ((ad 22), .inl (G.2.2 1, 20000, .inl (F 22))), ((ad 38), .inl (G.2.2 1, 40, .inl (F 38))), ((ad 39), .inl (G.2.2 1, 40, .inl (F 39))), ((ad 40), .inl (G.2.2 1, 2, .inl (F 40))), ((ad 41), .inl (G.2.2 1, 20, .inl (F 41))), ((ad 42), .inl (G.2.2 3, 20, .inl (F 42))), ((ad 43), .inl (G.2.2 3, 20, .inl (F 43)))])) := List.Perm.refl _
  refine k_i C h hp (r_runS C h hp (As := [.int e9]) (rest := [.int (((((nI n) + (mBi a 4 0)) + (mBi b 4 0)) + (mBi c9 4 0)) + (mBi d 4 0))]) (m_bytesIn l G e9) (va_cwS 1 C.1.1.2.2.2.2 gX10_feed_X10_bytesIn rfl rfl rfl (by decide +kernel) ⟨Nat.le_of_ble_eq_true rfl, Nat.le_of_ble_eq_true rfl⟩) rfl hl.1 (Nat.le_of_ble_eq_true rfl) dX10_feed_32 ⟨Nat.le_of_ble_eq_true rfl, Nat.le_of_ble_eq_true rfl⟩) (fun r_13 u_14 H locs hw_15 h => ?_)
  have h : gS G A s (mW G ad (upd (upd I 23 (nI n)) 0 0) (va_up F 1 f) rw gd gl) H locs := h
  refine W.widen (k := 0) (n := 0) (Nat.le_of_ble_eq_true rfl) (Nat.le_of_ble_eq_true rfl) ?_
  subst hw_15
  refine lv_iadd hx hb dX10_feed_35 ?_
  refine lv_cgi (y := (nI (n + mCt5 a b c9 d e9))) (by rw [show (0 : Int32) = nI 0 from rfl]; simp only [mBi_ct, nI_add, mCt5]; congr 1; omega) ?_
  refine lv_bipush (v := 120) hx hb dX10_feed_36 (by decide) ?_
  refine lv_icmp_le (tgt := 43) hx hb dX10_feed_38 (by decide) (fun c_38 => ?_) (fun c_38 => ?_)
  · have hle : n + mCt5 a b c9 d e9 ≤ 120 := (nI_leI (b := 120) (by omega) (by decide)).mp c_38
    have hle2 := hle
    simp only [mCt5] at hle2
    refine lv_aload_n hx hb dX10_feed_43 rfl (lv_at hl 0 rfl) ?_
    refine lv_iload_n hx hb dX10_feed_44 rfl (lv_at hl 1 rfl) ?_
    have hp : List.Perm (mW G ad (upd (upd I 23 (nI n)) 0 0) (va_up F 1 f) rw gd gl : va_W) ([((ad 0), .inr (10, [.int 0, .ref (ad 1), .ref (ad 2), .ref (ad 3), .ref (ad 4), .ref (ad 5), .ref (ad 6), .ref (ad 7), .ref (ad 8), .ref (ad 9), .ref (ad 10), .ref (ad 11), .ref (ad 12), .ref (ad 13), .ref (ad 14), .ref (ad 15), .ref (ad 16), .ref (ad 17), .ref (ad 18), .ref (ad 19), .ref (ad 20), .ref (ad 21), .ref (ad 22), .int (nI n), .int (I 24), .int (I 25), .int (I 26), .int (I 27), .int (I 28), .int (I 29), .ref rw, .int (I 31), .int (I 32), .int (I 33), .int (I 34), .int (I 35), .long gd, .long gl, .ref (ad 38), .ref (ad 39), .ref (ad 40), .ref (ad 41), .ref (ad 42), .ref (ad 43), .int (I 44), .int (I 45), .int (I 46), .int (I 47), .int (I 48), .int (I 49)])), ((ad 1), .inl (G.2.2 0, 120, .inl f)), ((ad 2), .inl (G.2.2 0, 2400, .inl (F 2))), ((ad 3), .inl (G.2.2 1, 20, .inl (F 3))), ((ad 4), .inl (G.2.2 1, 20, .inl (F 4))), ((ad 5), .inl (G.2.2 1, 20, .inl (F 5))), ((ad 6), .inl (G.2.2 1, 60, .inl (F 6))), ((ad 7), .inl (G.2.2 1, 60, .inl (F 7))), ((ad 8), .inl (G.2.2 1, 60, .inl (F 8))), ((ad 9), .inl (G.2.2 1, 60, .inl (F 9))), ((ad 10), .inl (G.2.2 1, 100, .inl (F 10))), ((ad 11), .inl (G.2.2 1, 100, .inl (F 11))), ((ad 12), .inl (G.2.2 1, 100, .inl (F 12))), ((ad 13), .inl (G.2.2 1, 100, .inl (F 13))), ((ad 14), .inl (G.2.2 1, 100, .inl (F 14))), ((ad 15), .inl (G.2.2 1, 100, .inl (F 15))), ((ad 16), .inl (G.2.2 1, 100, .inl (F 16))), ((ad 17), .inl (G.2.2 1, 100, .inl (F 17))), ((ad 18), .inl (G.2.2 1, 100, .inl (F 18))), ((ad 19), .inl (G.2.2 1, 6, .inl (F 19))), ((ad 20), .inl (G.2.2 1, 20000, .inl (F 20))), ((ad 21), .inl (G.2.2 1, 20000, .inl (F 21))), ((ad 22), .inl (G.2.2 1, 20000, .inl (F 22))), ((ad 38), .inl (G.2.2 1, 40, .inl (F 38))), ((ad 39), .inl (G.2.2 1, 40, .inl (F 39))), ((ad 40), .inl (G.2.2 1, 2, .inl (F 40))), ((ad 41), .inl (G.2.2 1, 20, .inl (F 41))), ((ad 42), .inl (G.2.2 3, 20, .inl (F 42))), ((ad 43), .inl (G.2.2 3, 20, .inl (F 43)))] ++ []) := pm 29 rfl [0, 1, 2, 3, 4, 5, 6, 7, 8, 9, 10, 11, 12, 13, 14, 15, 16, 17, 18, 19, 20, 21, 22, 23, 24, 25, 26, 27, 28] (by decide +kernel) rfl
    refine k_v C h hp (r_runV C h hp 0 rfl rfl (As := [.int a]) (rest := []) (m_put l G ad (upd I 0 0) F rw gd gl a n f (by rw [mPu_ct]; omega)) (cwV 1 C.1.1.2.2.2.2 gX10_feed_X10_put rfl rfl rfl (by decide +kernel) ⟨Nat.le_of_ble_eq_true rfl, Nat.le_of_ble_eq_true rfl⟩) rfl hl.1 (Nat.le_of_ble_eq_true rfl) dX10_feed_45 ⟨Nat.le_of_ble_eq_true rfl, Nat.le_of_ble_eq_true rfl⟩) (fun u1 H locs hu1 h => ?_)
    have h : gS G A s (mW G ad (upd (upd I 23 (nI u1.2)) 0 0) (va_up F 1 u1.1) rw gd gl) H locs := h
    refine W.widen (k := 0) (n := 0) (Nat.le_of_ble_eq_true rfl) (Nat.le_of_ble_eq_true rfl) ?_
    have hc1 : u1.2 = n + mCt a 4 := by rw [hu1, mPu_ct]
    refine lv_aload_n hx hb dX10_feed_48 rfl (lv_at hl 0 rfl) ?_
    refine lv_iload_n hx hb dX10_feed_49 rfl (lv_at hl 2 rfl) ?_
    have hp : List.Perm (mW G ad (upd (upd I 23 (nI u1.2)) 0 0) (va_up F 1 u1.1) rw gd gl : va_W) ([((ad 0), .inr (10, [.int 0, .ref (ad 1), .ref (ad 2), .ref (ad 3), .ref (ad 4), .ref (ad 5), .ref (ad 6), .ref (ad 7), .ref (ad 8), .ref (ad 9), .ref (ad 10), .ref (ad 11), .ref (ad 12), .ref (ad 13), .ref (ad 14), .ref (ad 15), .ref (ad 16), .ref (ad 17), .ref (ad 18), .ref (ad 19), .ref (ad 20), .ref (ad 21), .ref (ad 22), .int (nI u1.2), .int (I 24), .int (I 25), .int (I 26), .int (I 27), .int (I 28), .int (I 29), .ref rw, .int (I 31), .int (I 32), .int (I 33), .int (I 34), .int (I 35), .long gd, .long gl, .ref (ad 38), .ref (ad 39), .ref (ad 40), .ref (ad 41), .ref (ad 42), .ref (ad 43), .int (I 44), .int (I 45), .int (I 46), .int (I 47), .int (I 48), .int (I 49)])), ((ad 1), .inl (G.2.2 0, 120, .inl u1.1)), ((ad 2), .inl (G.2.2 0, 2400, .inl (F 2))), ((ad 3), .inl (G.2.2 1, 20, .inl (F 3))), ((ad 4), .inl (G.2.2 1, 20, .inl (F 4))), ((ad 5), .inl (G.2.2 1, 20, .inl (F 5))), ((ad 6), .inl (G.2.2 1, 60, .inl (F 6))), ((ad 7), .inl (G.2.2 1, 60, .inl (F 7))), ((ad 8), .inl (G.2.2 1, 60, .inl (F 8))), ((ad 9), .inl (G.2.2 1, 60, .inl (F 9))), ((ad 10), .inl (G.2.2 1, 100, .inl (F 10))), ((ad 11), .inl (G.2.2 1, 100, .inl (F 11))), ((ad 12), .inl (G.2.2 1, 100, .inl (F 12))), ((ad 13), .inl (G.2.2 1, 100, .inl (F 13))), ((ad 14), .inl (G.2.2 1, 100, .inl (F 14))), ((ad 15), .inl (G.2.2 1, 100, .inl (F 15))), ((ad 16), .inl (G.2.2 1, 100, .inl (F 16))), ((ad 17), .inl (G.2.2 1, 100, .inl (F 17))), ((ad 18), .inl (G.2.2 1, 100, .inl (F 18))), ((ad 19), .inl (G.2.2 1, 6, .inl (F 19))), ((ad 20), .inl (G.2.2 1, 20000, .inl (F 20))), ((ad 21), .inl (G.2.2 1, 20000, .inl (F 21))), ((ad 22), .inl (G.2.2 1, 20000, .inl (F 22))), ((ad 38), .inl (G.2.2 1, 40, .inl (F 38))), ((ad 39), .inl (G.2.2 1, 40, .inl (F 39))), ((ad 40), .inl (G.2.2 1, 2, .inl (F 40))), ((ad 41), .inl (G.2.2 1, 20, .inl (F 41))), ((ad 42), .inl (G.2.2 3, 20, .inl (F 42))), ((ad 43), .inl (G.2.2 3, 20, .inl (F 43)))] ++ []) := pm 29 rfl [0, 1, 2, 3, 4, 5, 6, 7, 8, 9, 10, 11, 12, 13, 14, 15, 16, 17, 18, 19, 20, 21, 22, 23, 24, 25, 26, 27, 28] (by decide +kernel) rfl
    refine k_v C h hp (r_runV C h hp 0 rfl rfl (As := [.int b]) (rest := []) (m_put l G ad (upd I 0 0) F rw gd gl b u1.2 u1.1 (by rw [mPu_ct]; omega)) (cwV 1 C.1.1.2.2.2.2 gX10_feed_X10_put rfl rfl rfl (by decide +kernel) ⟨Nat.le_of_ble_eq_true rfl, Nat.le_of_ble_eq_true rfl⟩) rfl hl.1 (Nat.le_of_ble_eq_true rfl) dX10_feed_50 ⟨Nat.le_of_ble_eq_true rfl, Nat.le_of_ble_eq_true rfl⟩) (fun u2 H locs hu2 h => ?_)
    have h : gS G A s (mW G ad (upd (upd I 23 (nI u2.2)) 0 0) (va_up F 1 u2.1) rw gd gl) H locs := h
    refine W.widen (k := 0) (n := 0) (Nat.le_of_ble_eq_true rfl) (Nat.le_of_ble_eq_true rfl) ?_
    have hc2 : u2.2 = u1.2 + mCt b 4 := by rw [hu2, mPu_ct]
    refine lv_aload_n hx hb dX10_feed_53 rfl (lv_at hl 0 rfl) ?_
    refine lv_iload_n hx hb dX10_feed_54 rfl (lv_at hl 3 rfl) ?_
    have hp : List.Perm (mW G ad (upd (upd I 23 (nI u2.2)) 0 0) (va_up F 1 u2.1) rw gd gl : va_W) ([((ad 0), .inr (10, [.int 0, .ref (ad 1), .ref (ad 2), .ref (ad 3), .ref (ad 4), .ref (ad 5), .ref (ad 6), .ref (ad 7), .ref (ad 8), .ref (ad 9), .ref (ad 10), .ref (ad 11), .ref (ad 12), .ref (ad 13), .ref (ad 14), .ref (ad 15), .ref (ad 16), .ref (ad 17), .ref (ad 18), .ref (ad 19), .ref (ad 20), .ref (ad 21), .ref (ad 22), .int (nI u2.2), .int (I 24), .int (I 25), .int (I 26), .int (I 27), .int (I 28), .int (I 29), .ref rw, .int (I 31), .int (I 32), .int (I 33), .int (I 34), .int (I 35), .long gd, .long gl, .ref (ad 38), .ref (ad 39), .ref (ad 40), .ref (ad 41), .ref (ad 42), .ref (ad 43), .int (I 44), .int (I 45), .int (I 46), .int (I 47), .int (I 48), .int (I 49)])), ((ad 1), .inl (G.2.2 0, 120, .inl u2.1)), ((ad 2), .inl (G.2.2 0, 2400, .inl (F 2))), ((ad 3), .inl (G.2.2 1, 20, .inl (F 3))), ((ad 4), .inl (G.2.2 1, 20, .inl (F 4))), ((ad 5), .inl (G.2.2 1, 20, .inl (F 5))), ((ad 6), .inl (G.2.2 1, 60, .inl (F 6))), ((ad 7), .inl (G.2.2 1, 60, .inl (F 7))), ((ad 8), .inl (G.2.2 1, 60, .inl (F 8))), ((ad 9), .inl (G.2.2 1, 60, .inl (F 9))), ((ad 10), .inl (G.2.2 1, 100, .inl (F 10))), ((ad 11), .inl (G.2.2 1, 100, .inl (F 11))), ((ad 12), .inl (G.2.2 1, 100, .inl (F 12))), ((ad 13), .inl (G.2.2 1, 100, .inl (F 13))), ((ad 14), .inl (G.2.2 1, 100, .inl (F 14))), ((ad 15), .inl (G.2.2 1, 100, .inl (F 15))), ((ad 16), .inl (G.2.2 1, 100, .inl (F 16))), ((ad 17), .inl (G.2.2 1, 100, .inl (F 17))), ((ad 18), .inl (G.2.2 1, 100, .inl (F 18))), ((ad 19), .inl (G.2.2 1, 6, .inl (F 19))), ((ad 20), .inl (G.2.2 1, 20000, .inl (F 20))), ((ad 21), .inl (G.2.2 1, 20000, .inl (F 21))), ((ad 22), .inl (G.2.2 1, 20000, .inl (F 22))), ((ad 38), .inl (G.2.2 1, 40, .inl (F 38))), ((ad 39), .inl (G.2.2 1, 40, .inl (F 39))), ((ad 40), .inl (G.2.2 1, 2, .inl (F 40))), ((ad 41), .inl (G.2.2 1, 20, .inl (F 41))), ((ad 42), .inl (G.2.2 3, 20, .inl (F 42))), ((ad 43), .inl (G.2.2 3, 20, .inl (F 43)))] ++ []) := pm 29 rfl [0, 1, 2, 3, 4, 5, 6, 7, 8, 9, 10, 11, 12, 13, 14, 15, 16, 17, 18, 19, 20, 21, 22, 23, 24, 25, 26, 27, 28] (by decide +kernel) rfl
    refine k_v C h hp (r_runV C h hp 0 rfl rfl (As := [.int c9]) (rest := []) (m_put l G ad (upd I 0 0) F rw gd gl c9 u2.2 u2.1 (by rw [mPu_ct]; omega)) (cwV 1 C.1.1.2.2.2.2 gX10_feed_X10_put rfl rfl rfl (by decide +kernel) ⟨Nat.le_of_ble_eq_true rfl, Nat.le_of_ble_eq_true rfl⟩) rfl hl.1 (Nat.le_of_ble_eq_true rfl) dX10_feed_55 ⟨Nat.le_of_ble_eq_true rfl, Nat.le_of_ble_eq_true rfl⟩) (fun u3 H locs hu3 h => ?_)
    have h : gS G A s (mW G ad (upd (upd I 23 (nI u3.2)) 0 0) (va_up F 1 u3.1) rw gd gl) H locs := h
    refine W.widen (k := 0) (n := 0) (Nat.le_of_ble_eq_true rfl) (Nat.le_of_ble_eq_true rfl) ?_
    have hc3 : u3.2 = u2.2 + mCt c9 4 := by rw [hu3, mPu_ct]
    refine lv_aload_n hx hb dX10_feed_58 rfl (lv_at hl 0 rfl) ?_
    refine lv_iload hx hb dX10_feed_59 (lv_at hl 4 rfl) ?_
    have hp : List.Perm (mW G ad (upd (upd I 23 (nI u3.2)) 0 0) (va_up F 1 u3.1) rw gd gl : va_W) ([((ad 0), .inr (10, [.int 0, .ref (ad 1), .ref (ad 2), .ref (ad 3), .ref (ad 4), .ref (ad 5), .ref (ad 6), .ref (ad 7), .ref (ad 8), .ref (ad 9), .ref (ad 10), .ref (ad 11), .ref (ad 12), .ref (ad 13), .ref (ad 14), .ref (ad 15), .ref (ad 16), .ref (ad 17), .ref (ad 18), .ref (ad 19), .ref (ad 20), .ref (ad 21), .ref (ad 22), .int (nI u3.2), .int (I 24), .int (I 25), .int (I 26), .int (I 27), .int (I 28), .int (I 29), .ref rw, .int (I 31), .int (I 32), .int (I 33), .int (I 34), .int (I 35), .long gd, .long gl, .ref (ad 38), .ref (ad 39), .ref (ad 40), .ref (ad 41), .ref (ad 42), .ref (ad 43), .int (I 44), .int (I 45), .int (I 46), .int (I 47), .int (I 48), .int (I 49)])), ((ad 1), .inl (G.2.2 0, 120, .inl u3.1)), ((ad 2), .inl (G.2.2 0, 2400, .inl (F 2))), ((ad 3), .inl (G.2.2 1, 20, .inl (F 3))), ((ad 4), .inl (G.2.2 1, 20, .inl (F 4))), ((ad 5), .inl (G.2.2 1, 20, .inl (F 5))), ((ad 6), .inl (G.2.2 1, 60, .inl (F 6))), ((ad 7), .inl (G.2.2 1, 60, .inl (F 7))), ((ad 8), .inl (G.2.2 1, 60, .inl (F 8))), ((ad 9), .inl (G.2.2 1, 60, .inl (F 9))), ((ad 10), .inl (G.2.2 1, 100, .inl (F 10))), ((ad 11), .inl (G.2.2 1, 100, .inl (F 11))), ((ad 12), .inl (G.2.2 1, 100, .inl (F 12))), ((ad 13), .inl (G.2.2 1, 100, .inl (F 13))), ((ad 14), .inl (G.2.2 1, 100, .inl (F 14))), ((ad 15), .inl (G.2.2 1, 100, .inl (F 15))), ((ad 16), .inl (G.2.2 1, 100, .inl (F 16))), ((ad 17), .inl (G.2.2 1, 100, .inl (F 17))), ((ad 18), .inl (G.2.2 1, 100, .inl (F 18))), ((ad 19), .inl (G.2.2 1, 6, .inl (F 19))), ((ad 20), .inl (G.2.2 1, 20000, .inl (F 20))), ((ad 21), .inl (G.2.2 1, 20000, .inl (F 21))), ((ad 22), .inl (G.2.2 1, 20000, .inl (F 22))), ((ad 38), .inl (G.2.2 1, 40, .inl (F 38))), ((ad 39), .inl (G.2.2 1, 40, .inl (F 39))), ((ad 40), .inl (G.2.2 1, 2, .inl (F 40))), ((ad 41), .inl (G.2.2 1, 20, .inl (F 41))), ((ad 42), .inl (G.2.2 3, 20, .inl (F 42))), ((ad 43), .inl (G.2.2 3, 20, .inl (F 43)))] ++ []) := pm 29 rfl [0, 1, 2, 3, 4, 5, 6, 7, 8, 9, 10, 11, 12, 13, 14, 15, 16, 17, 18, 19, 20, 21, 22, 23, 24, 25, 26, 27, 28] (by decide +kernel) rfl
    refine k_v C h hp (r_runV C h hp 0 rfl rfl (As := [.int d]) (rest := []) (m_put l G ad (upd I 0 0) F rw gd gl d u3.2 u3.1 (by rw [mPu_ct]; omega)) (cwV 1 C.1.1.2.2.2.2 gX10_feed_X10_put rfl rfl rfl (by decide +kernel) ⟨Nat.le_of_ble_eq_true rfl, Nat.le_of_ble_eq_true rfl⟩) rfl hl.1 (Nat.le_of_ble_eq_true rfl) dX10_feed_61 ⟨Nat.le_of_ble_eq_true rfl, Nat.le_of_ble_eq_true rfl⟩) (fun u4 H locs hu4 h => ?_)
    have h : gS G A s (mW G ad (upd (upd I 23 (nI u4.2)) 0 0) (va_up F 1 u4.1) rw gd gl) H locs := h
    refine W.widen (k := 0) (n := 0) (Nat.le_of_ble_eq_true rfl) (Nat.le_of_ble_eq_true rfl) ?_
    have hc4 : u4.2 = u3.2 + mCt d 4 := by rw [hu4, mPu_ct]
    refine lv_aload_n hx hb dX10_feed_64 rfl (lv_at hl 0 rfl) ?_
    refine lv_iload hx hb dX10_feed_65 (lv_at hl 5 rfl) ?_
    have hp : List.Perm (mW G ad (upd (upd I 23 (nI u4.2)) 0 0) (va_up F 1 u4.1) rw gd gl : va_W) ([((ad 0), .inr (10, [.int 0, .ref (ad 1), .ref (ad 2), .ref (ad 3), .ref (ad 4), .ref (ad 5), .ref (ad 6), .ref (ad 7), .ref (ad 8), .ref (ad 9), .ref (ad 10), .ref (ad 11), .ref (ad 12), .ref (ad 13), .ref (ad 14), .ref (ad 15), .ref (ad 16), .ref (ad 17), .ref (ad 18), .ref (ad 19), .ref (ad 20), .ref (ad 21), .ref (ad 22), .int (nI u4.2), .int (I 24), .int (I 25), .int (I 26), .int (I 27), .int (I 28), .int (I 29), .ref rw, .int (I 31), .int (I 32), .int (I 33), .int (I 34), .int (I 35), .long gd, .long gl, .ref (ad 38), .ref (ad 39), .ref (ad 40), .ref (ad 41), .ref (ad 42), .ref (ad 43), .int (I 44), .int (I 45), .int (I 46), .int (I 47), .int (I 48), .int (I 49)])), ((ad 1), .inl (G.2.2 0, 120, .inl u4.1)), ((ad 2), .inl (G.2.2 0, 2400, .inl (F 2))), ((ad 3), .inl (G.2.2 1, 20, .inl (F 3))), ((ad 4), .inl (G.2.2 1, 20, .inl (F 4))), ((ad 5), .inl (G.2.2 1, 20, .inl (F 5))), ((ad 6), .inl (G.2.2 1, 60, .inl (F 6))), ((ad 7), .inl (G.2.2 1, 60, .inl (F 7))), ((ad 8), .inl (G.2.2 1, 60, .inl (F 8))), ((ad 9), .inl (G.2.2 1, 60, .inl (F 9))), ((ad 10), .inl (G.2.2 1, 100, .inl (F 10))), ((ad 11), .inl (G.2.2 1, 100, .inl (F 11))), ((ad 12), .inl (G.2.2 1, 100, .inl (F 12))), ((ad 13), .inl (G.2.2 1, 100, .inl (F 13))), ((ad 14), .inl (G.2.2 1, 100, .inl (F 14))), ((ad 15), .inl (G.2.2 1, 100, .inl (F 15))), ((ad 16), .inl (G.2.2 1, 100, .inl (F 16))), ((ad 17), .inl (G.2.2 1, 100, .inl (F 17))), ((ad 18), .inl (G.2.2 1, 100, .inl (F 18))), ((ad 19), .inl (G.2.2 1, 6, .inl (F 19))), ((ad 20), .inl (G.2.2 1, 20000, .inl (F 20))), ((ad 21), .inl (G.2.2 1, 20000, .inl (F 21))), ((ad 22), .inl (G.2.2 1, 20000, .inl (F 22))), ((ad 38), .inl (G.2.2 1, 40, .inl (F 38))), ((ad 39), .inl (G.2.2 1, 40, .inl (F 39))), ((ad 40), .inl (G.2.2 1, 2, .inl (F 40))), ((ad 41), .inl (G.2.2 1, 20, .inl (F 41))), ((ad 42), .inl (G.2.2 3, 20, .inl (F 42))), ((ad 43), .inl (G.2.2 3, 20, .inl (F 43)))] ++ []) := pm 29 rfl [0, 1, 2, 3, 4, 5, 6, 7, 8, 9, 10, 11, 12, 13, 14, 15, 16, 17, 18, 19, 20, 21, 22, 23, 24, 25, 26, 27, 28] (by decide +kernel) rfl
    refine k_v C h hp (r_runV C h hp 0 rfl rfl (As := [.int e9]) (rest := []) (m_put l G ad (upd I 0 0) F rw gd gl e9 u4.2 u4.1 (by rw [mPu_ct]; omega)) (cwV 1 C.1.1.2.2.2.2 gX10_feed_X10_put rfl rfl rfl (by decide +kernel) ⟨Nat.le_of_ble_eq_true rfl, Nat.le_of_ble_eq_true rfl⟩) rfl hl.1 (Nat.le_of_ble_eq_true rfl) dX10_feed_67 ⟨Nat.le_of_ble_eq_true rfl, Nat.le_of_ble_eq_true rfl⟩) (fun u5 H locs hu5 h => ?_)
    have h : gS G A s (mW G ad (upd (upd I 23 (nI u5.2)) 0 0) (va_up F 1 u5.1) rw gd gl) H locs := h
    refine W.widen (k := 0) (n := 0) (Nat.le_of_ble_eq_true rfl) (Nat.le_of_ble_eq_true rfl) ?_
    have hc5 : u5.2 = u4.2 + mCt e9 4 := by rw [hu5, mPu_ct]
    refine lv_aload_n hx hb dX10_feed_70 rfl (lv_at hl 0 rfl) ?_
    refine r_get C h 0 rfl (Cn := RX10) (T := TX10) (N := 50) rfl hinX10 23 (by decide) (index := 109) (ref := "ScaleHouseModel") wd1 rfl (v := .int (nI u5.2)) rfl dX10_feed_71 ?_
    exact r_iret C h hr hlk (Nat.zero_le _) (Nat.zero_le _) u5 (Or.inl ⟨hle, rfl, u1, u2, u3, u4, hu1, hu2, hu3, hu4, hu5⟩) (rfl) dX10_feed_74
  · have hgt : ¬ n + mCt5 a b c9 d e9 ≤ 120 := fun z => c_38 (nI_le (b := 120) z (by decide))
    refine lv_iconst (v := -1) hx hb dX10_feed_41 (by decide) ?_
    exact r_iret C h hr hlk (Nat.zero_le _) (Nat.zero_le _) (f, n) (Or.inr ⟨hgt, rfl, rfl⟩) (rfl) dX10_feed_42

theorem mIn_t {t : Nat} (h : t < 2) : ¬ mIn (nI t) 0 1 = 0 := by
  rcases (show t = 0 ∨ t = 1 by omega) with rfl | rfl <;> decide
def mRowN (I : Nat → Int32) : Int32 × (Nat → Int32) :=
  ((-1), (upd I 0 0))
set_option maxHeartbeats 4000000 in
set_option maxRecDepth 100000 in
theorem m_rowN (l : Launch) (G : gG) (ad : Nat → Nat) (I : Nat → Int32) (F : Nat → Nat → Int32) (rw : Nat) (gd gl : Int64) (x y z : Int32) (hx1 : mIn x 0 1 = 0) : cM l yX10_row wsX10_row 1 25 (0) (0) G [.ref (ad 0), .int x, .int y, .int z] (mW G ad I F rw gd gl) (qI G (S := Unit) (fun r _ => r = (mRowN I).1) (fun _ => mW G ad ((mRowN I).2) F rw gd gl)) := by
  refine o_M (cc := cX10_row) (maxL := 4) (ret := (some .int)) (own := RX10) (by decide +kernel) rfl rfl (Nat.le_of_ble_eq_true rfl) ?_
  intro p e s m below meth c A ls H locs hA C h hr hlk hnm hl
  have hx := C.1.1.1
  have hb := C.1.1.2.1
  have hl : lv_has ls 4 [(0, .ref (ad 0)), (1, .int x), (2, .int y), (3, .int z)] := hl
  have wd0 : Cond.fieldLink RX10 106 "ScaleHouseModel" "thrown" "I" ∈ wsX10_row := by decide +kernel
  have hinX10 : ∀ w ∈ wsX100, w ∈ wsX10_row := fun _ h => List.mem_cons_of_mem _ (List.mem_append_right _ h)
  refine lv_aload_n hx hb dX10_row_0 rfl (lv_at hl 0 rfl) ?_
  refine lv_iconst (v := 0) hx hb dX10_row_1 (by decide) ?_
  refine r_put C h 0 rfl (Cn := RX10) (T := TX10) (N := 50) rfl hinX10 tyX10 tyX10_ok nmX10 0 (by decide) (index := 106) (ref := "ScaleHouseModel") wd0 rfl rfl (v := .int 0) rfl rfl (show 0 < 50 by decide) dX10_row_2 (fun H locs h => ?_)
  have h : gS G A s (mW G ad (upd I 0 0) F rw gd gl) H locs := h
  refine lv_iload_n hx hb dX10_row_5 rfl (lv_at hl 1 rfl) ?_
  refine lv_iconst (v := 0) hx hb dX10_row_6 (by decide) ?_
  refine lv_iconst (v := 1) hx hb dX10_row_7 (by decide) ?_
  have hp : List.Perm (mW G ad (upd I 0 0) F rw gd gl : va_W) ([] ++ ([((ad 0), .inr (10, [.int 0, .ref (ad 1), .ref (ad 2), .ref (ad 3), .ref (ad 4), .ref (ad 5), .ref (ad 6), .ref (ad 7), .ref (ad 8), .ref (ad 9), .ref (ad 10), .ref (ad 11), .ref (ad 12), .ref (ad 13), .ref (ad 14), .ref (ad 15), .ref (ad 16), .ref (ad 17), .ref (ad 18), .ref (ad 19), .ref (ad 20), .ref (ad 21), .ref (ad 22), .int (I 23), .int (I 24), .int (I 25), .int (I 26), .int (I 27), .int (I 28), .int (I 29), .ref rw, .int (I 31), .int (I 32), .int (I 33), .int (I 34), .int (I 35), .long gd, .long gl, .ref (ad 38), .ref (ad 39), .ref (ad 40), .ref (ad 41), .ref (ad 42), .ref (ad 43), .int (I 44), .int (I 45), .int (I 46), .int (I 47), .int (I 48), .int (I 49)])), ((ad 1), .inl (G.2.2 0, 120, .inl (F 1))), ((ad 2), .inl (G.2.2 0, 2400, .inl (F 2))), ((ad 3), .inl (G.2.2 1, 20, .inl (F 3))), ((ad 4), .inl (G.2.2 1, 20, .inl (F 4))), ((ad 5), .inl (G.2.2 1, 20, .inl (F 5))), ((ad 6), .inl (G.2.2 1, 60, .inl (F 6))), ((ad 7), .inl (G.2.2 1, 60, .inl (F 7))), ((ad 8), .inl (G.2.2 1, 60, .inl (F 8))), ((ad 9), .inl (G.2.2 1, 60, .inl (F 9))), ((ad 10), .inl (G.2.2 1, 100, .inl (F 10))), ((ad 11), .inl (G.2.2 1, 100, .inl (F 11))), ((ad 12), .inl (G.2.2 1, 100, .inl (F 12))), ((ad 13), .inl (G.2.2 1, 100, .inl (F 13))), ((ad 14), .inl (G.2.2 1, 100, .inl (F 14))), ((ad 15), .inl (G.2.2 1, 100, .inl (F 15))), ((ad 16), .inl (G.2.2 1, 100, .inl (F 16))), ((ad 17), .inl (G.2.2 1, 100, .inl (F 17))), ((ad 18), .inl (G.2.2 1, 100, .inl (F 18))), ((ad 19), .inl (G.2.2 1, 6, .inl (F 19))), ((ad 20), .inl (G.2.2 1, 20000, .inl (F 20))), ((ad 21), .inl (G.2.2 1, 20000, .inl (F 21))), ((ad 22), .inl (G.2.2 1, 20000, .inl (F 22))), ((ad 38), .inl (G.2.2 1, 40, .inl (F 38))), ((ad 39), .inl (G.2.2 1, 40, .inl (F 39))), ((ad 40), .inl (G.2.2 1, 2, .inl (F 40))), ((ad 41), .inl (G.2.2 1, 20, .inl (F 41))), ((ad 42), .inl (G.2.2 3, 20, .inl (F 42))), ((ad 43), .inl (G.2.2 3, 20, .inl (F 43)))])) := List.Perm.refl _
  refine k_i C h hp (r_runS C h hp (As := [.int x, .int 0, .int 1]) (rest := []) (m_isIn l G x 0 1) (va_cwS 3 C.1.1.2.2.2.2 gX10_row_X10_isIn rfl rfl rfl (by decide +kernel) ⟨Nat.le_of_ble_eq_true rfl, Nat.le_of_ble_eq_true rfl⟩) rfl hl.1 (Nat.le_of_ble_eq_true rfl) dX10_row_8 ⟨Nat.le_of_ble_eq_true rfl, Nat.le_of_ble_eq_true rfl⟩) (fun r_1 u_2 H locs hw_3 h => ?_)
  have h : gS G A s (mW G ad (upd I 0 0) F rw gd gl) H locs := h
  refine W.widen (k := 0) (n := 0) (Nat.le_of_ble_eq_true rfl) (Nat.le_of_ble_eq_true rfl) ?_
  subst hw_3
  refine lv_if_eq (tgt := 45) hx hb dX10_row_11 (by decide) (fun c_11 => ?_) (fun c_11 => ?_)
  · refine lv_iconst (v := -1) hx hb dX10_row_45 (by decide) ?_
    have hs : (mRowN I) = ((-1), (upd I 0 0)) := by simp only [mRowN, if_pos c_11]
    exact r_iret C h hr hlk (Nat.zero_le _) (Nat.zero_le _) () (by rw [hs] <;> rfl) (by rw [hs] <;> rfl) dX10_row_46
  · exact absurd hx1 c_11

def mRow (I : Nat → Int32) (F : Nat → Nat → Int32) (t k : Nat) (y z : Int32) : Int32 × (Nat → Int32) × (Nat → Nat → Int32) :=
  if (mIn y 1 99) = 0 then ((-1), (upd I 0 0), F)
  else if (mIn z 1 60) = 0 then ((-1), (upd I 0 0), F)
    else if (nI k) = 20 then ((-1), (upd I 0 0), F)
      else ((nI k), (upd I 0 0), (va_up (va_up (va_up F 38 (upd (F 38) (20 * t + k) y)) 39 (upd (F 39) (20 * t + k) z)) 40 (upd (F 40) t (nI (k + 1)))))
set_option maxHeartbeats 4000000 in
set_option maxRecDepth 100000 in
theorem m_row (l : Launch) (G : gG) (ad : Nat → Nat) (I : Nat → Int32) (F : Nat → Nat → Int32) (rw : Nat) (gd gl : Int64) (t k : Nat) (y z : Int32) (ht : t < 2) (hk : F 40 t = nI k) (hk2 : k ≤ 20) : cM l yX10_row wsX10_row 1 25 (0) (0) G [.ref (ad 0), .int (nI t), .int y, .int z] (mW G ad I F rw gd gl) (qI G (S := Unit) (fun r _ => r = (mRow I F t k y z).1) (fun _ => mW G ad ((mRow I F t k y z).2.1) ((mRow I F t k y z).2.2) rw gd gl)) := by
  refine o_M (cc := cX10_row) (maxL := 4) (ret := (some .int)) (own := RX10) (by decide +kernel) rfl rfl (Nat.le_of_ble_eq_true rfl) ?_
  intro p e s m below meth c A ls H locs hA C h hr hlk hnm hl
  have hx := C.1.1.1
  have hb := C.1.1.2.1
  have hl : lv_has ls 4 [(0, .ref (ad 0)), (1, .int (nI t)), (2, .int y), (3, .int z)] := hl
  have wd0 : Cond.fieldLink RX10 106 "ScaleHouseModel" "thrown" "I" ∈ wsX10_row := by decide +kernel
  have hinX10 : ∀ w ∈ wsX100, w ∈ wsX10_row := fun _ h => List.mem_cons_of_mem _ (List.mem_append_right _ h)
  have wd1 : Cond.fieldLink RX10 86 "ScaleHouseModel" "rows" "[I" ∈ wsX10_row := by decide +kernel
  have wd2 : Cond.fieldLink RX10 80 "ScaleHouseModel" "rowD" "[I" ∈ wsX10_row := by decide +kernel
  have wd3 : Cond.fieldLink RX10 83 "ScaleHouseModel" "rowL" "[I" ∈ wsX10_row := by decide +kernel
  refine lv_aload_n hx hb dX10_row_0 rfl (lv_at hl 0 rfl) ?_
  refine lv_iconst (v := 0) hx hb dX10_row_1 (by decide) ?_
  refine r_put C h 0 rfl (Cn := RX10) (T := TX10) (N := 50) rfl hinX10 tyX10 tyX10_ok nmX10 0 (by decide) (index := 106) (ref := "ScaleHouseModel") wd0 rfl rfl (v := .int 0) rfl rfl (show 0 < 50 by decide) dX10_row_2 (fun H locs h => ?_)
  have h : gS G A s (mW G ad (upd I 0 0) F rw gd gl) H locs := h
  refine lv_iload_n hx hb dX10_row_5 rfl (lv_at hl 1 rfl) ?_
  refine lv_iconst (v := 0) hx hb dX10_row_6 (by decide) ?_
  refine lv_iconst (v := 1) hx hb dX10_row_7 (by decide) ?_
  have hp : List.Perm (mW G ad (upd I 0 0) F rw gd gl : va_W) ([] ++ ([((ad 0), .inr (10, [.int 0, .ref (ad 1), .ref (ad 2), .ref (ad 3), .ref (ad 4), .ref (ad 5), .ref (ad 6), .ref (ad 7), .ref (ad 8), .ref (ad 9), .ref (ad 10), .ref (ad 11), .ref (ad 12), .ref (ad 13), .ref (ad 14), .ref (ad 15), .ref (ad 16), .ref (ad 17), .ref (ad 18), .ref (ad 19), .ref (ad 20), .ref (ad 21), .ref (ad 22), .int (I 23), .int (I 24), .int (I 25), .int (I 26), .int (I 27), .int (I 28), .int (I 29), .ref rw, .int (I 31), .int (I 32), .int (I 33), .int (I 34), .int (I 35), .long gd, .long gl, .ref (ad 38), .ref (ad 39), .ref (ad 40), .ref (ad 41), .ref (ad 42), .ref (ad 43), .int (I 44), .int (I 45), .int (I 46), .int (I 47), .int (I 48), .int (I 49)])), ((ad 1), .inl (G.2.2 0, 120, .inl (F 1))), ((ad 2), .inl (G.2.2 0, 2400, .inl (F 2))), ((ad 3), .inl (G.2.2 1, 20, .inl (F 3))), ((ad 4), .inl (G.2.2 1, 20, .inl (F 4))), ((ad 5), .inl (G.2.2 1, 20, .inl (F 5))), ((ad 6), .inl (G.2.2 1, 60, .inl (F 6))), ((ad 7), .inl (G.2.2 1, 60, .inl (F 7))), ((ad 8), .inl (G.2.2 1, 60, .inl (F 8))), ((ad 9), .inl (G.2.2 1, 60, .inl (F 9))), ((ad 10), .inl (G.2.2 1, 100, .inl (F 10))), ((ad 11), .inl (G.2.2 1, 100, .inl (F 11))), ((ad 12), .inl (G.2.2 1, 100, .inl (F 12))), ((ad 13), .inl (G.2.2 1, 100, .inl (F 13))), ((ad 14), .inl (G.2.2 1, 100, .inl (F 14))), ((ad 15), .inl (G.2.2 1, 100, .inl (F 15))), ((ad 16), .inl (G.2.2 1, 100, .inl (F 16))), ((ad 17), .inl (G.2.2 1, 100, .inl (F 17))), ((ad 18), .inl (G.2.2 1, 100, .inl (F 18))), ((ad 19), .inl (G.2.2 1, 6, .inl (F 19))), ((ad 20), .inl (G.2.2 1, 20000, .inl (F 20))), ((ad 21), .inl (G.2.2 1, 20000, .inl (F 21))), ((ad 22), .inl (G.2.2 1, 20000, .inl (F 22))), ((ad 38), .inl (G.2.2 1, 40, .inl (F 38))), ((ad 39), .inl (G.2.2 1, 40, .inl (F 39))), ((ad 40), .inl (G.2.2 1, 2, .inl (F 40))), ((ad 41), .inl (G.2.2 1, 20, .inl (F 41))), ((ad 42), .inl (G.2.2 3, 20, .inl (F 42))), ((ad 43), .inl (G.2.2 3, 20, .inl (F 43)))])) := List.Perm.refl _
  refine k_i C h hp (r_runS C h hp (As := [.int (nI t), .int 0, .int 1]) (rest := []) (m_isIn l G (nI t) 0 1) (va_cwS 3 C.1.1.2.2.2.2 gX10_row_X10_isIn rfl rfl rfl (by decide +kernel) ⟨Nat.le_of_ble_eq_true rfl, Nat.le_of_ble_eq_true rfl⟩) rfl hl.1 (Nat.le_of_ble_eq_true rfl) dX10_row_8 ⟨Nat.le_of_ble_eq_true rfl, Nat.le_of_ble_eq_true rfl⟩) (fun r_1 u_2 H locs hw_3 h => ?_)
  have h : gS G A s (mW G ad (upd I 0 0) F rw gd gl) H locs := h
  refine W.widen (k := 0) (n := 0) (Nat.le_of_ble_eq_true rfl) (Nat.le_of_ble_eq_true rfl) ?_
  subst hw_3
  refine lv_if_eq (tgt := 45) hx hb dX10_row_11 (by decide) (fun c_11 => ?_) (fun c_11 => ?_)
  · exact absurd c_11 (mIn_t ht)
  · refine lv_iload_n hx hb dX10_row_14 rfl (lv_at hl 2 rfl) ?_
    refine lv_iconst (v := 1) hx hb dX10_row_15 (by decide) ?_
    refine lv_bipush (v := 99) hx hb dX10_row_16 (by decide) ?_
    have hp : List.Perm (mW G ad (upd I 0 0) F rw gd gl : va_W) ([] ++ ([((ad 0), .inr (10, [.int 0, .ref (ad 1), .ref (ad 2), .ref (ad 3), .ref (ad 4), .ref (ad 5), .ref (ad 6), .ref (ad 7), .ref (ad 8), .ref (ad 9), .ref (ad 10), .ref (ad 11), .ref (ad 12), .ref (ad 13), .ref (ad 14), .ref (ad 15), .ref (ad 16), .ref (ad 17), .ref (ad 18), .ref (ad 19), .ref (ad 20), .ref (ad 21), .ref (ad 22), .int (I 23), .int (I 24), .int (I 25), .int (I 26), .int (I 27), .int (I 28), .int (I 29), .ref rw, .int (I 31), .int (I 32), .int (I 33), .int (I 34), .int (I 35), .long gd, .long gl, .ref (ad 38), .ref (ad 39), .ref (ad 40), .ref (ad 41), .ref (ad 42), .ref (ad 43), .int (I 44), .int (I 45), .int (I 46), .int (I 47), .int (I 48), .int (I 49)])), ((ad 1), .inl (G.2.2 0, 120, .inl (F 1))), ((ad 2), .inl (G.2.2 0, 2400, .inl (F 2))), ((ad 3), .inl (G.2.2 1, 20, .inl (F 3))), ((ad 4), .inl (G.2.2 1, 20, .inl (F 4))), ((ad 5), .inl (G.2.2 1, 20, .inl (F 5))), ((ad 6), .inl (G.2.2 1, 60, .inl (F 6))), ((ad 7), .inl (G.2.2 1, 60, .inl (F 7))), ((ad 8), .inl (G.2.2 1, 60, .inl (F 8))), ((ad 9), .inl (G.2.2 1, 60, .inl (F 9))), ((ad 10), .inl (G.2.2 1, 100, .inl (F 10))), ((ad 11), .inl (G.2.2 1, 100, .inl (F 11))), ((ad 12), .inl (G.2.2 1, 100, .inl (F 12))), ((ad 13), .inl (G.2.2 1, 100, .inl (F 13))), ((ad 14), .inl (G.2.2 1, 100, .inl (F 14))), ((ad 15), .inl (G.2.2 1, 100, .inl (F 15))), ((ad 16), .inl (G.2.2 1, 100, .inl (F 16))), ((ad 17), .inl (G.2.2 1, 100, .inl (F 17))), ((ad 18), .inl (G.2.2 1, 100, .inl (F 18))), ((ad 19), .inl (G.2.2 1, 6, .inl (F 19))), ((ad 20), .inl (G.2.2 1, 20000, .inl (F 20))), ((ad 21), .inl (G.2.2 1, 20000, .inl (F 21))), ((ad 22), .inl (G.2.2 1, 20000, .inl (F 22))), ((ad 38), .inl (G.2.2 1, 40, .inl (F 38))), ((ad 39), .inl (G.2.2 1, 40, .inl (F 39))), ((ad 40), .inl (G.2.2 1, 2, .inl (F 40))), ((ad 41), .inl (G.2.2 1, 20, .inl (F 41))), ((ad 42), .inl (G.2.2 3, 20, .inl (F 42))), ((ad 43), .inl (G.2.2 3, 20, .inl (F 43)))])) := List.Perm.refl _
    refine k_i C h hp (r_runS C h hp (As := [.int y, .int 1, .int 99]) (rest := []) (m_isIn l G y 1 99) (va_cwS 3 C.1.1.2.2.2.2 gX10_row_X10_isIn rfl rfl rfl (by decide +kernel) ⟨Nat.le_of_ble_eq_true rfl, Nat.le_of_ble_eq_true rfl⟩) rfl hl.1 (Nat.le_of_ble_eq_true rfl) dX10_row_18 ⟨Nat.le_of_ble_eq_true rfl, Nat.le_of_ble_eq_true rfl⟩) (fun r_4 u_5 H locs hw_6 h => ?_)
    have h : gS G A s (mW G ad (upd I 0 0) F rw gd gl) H locs := h
    refine W.widen (k := 0) (n := 0) (Nat.le_of_ble_eq_true rfl) (Nat.le_of_ble_eq_true rfl) ?_
    subst hw_6
    refine lv_if_eq (tgt := 45) hx hb dX10_row_21 (by decide) (fun c_21 => ?_) (fun c_21 => ?_)
    · refine lv_iconst (v := -1) hx hb dX10_row_45 (by decide) ?_
      have hs : (mRow I F t k y z) = ((-1), (upd I 0 0), F) := by simp only [mRow, if_neg c_11, if_pos c_21]
      exact r_iret C h hr hlk (Nat.zero_le _) (Nat.zero_le _) () (by rw [hs] <;> rfl) (by rw [hs] <;> rfl) dX10_row_46
    · refine lv_iload_n hx hb dX10_row_24 rfl (lv_at hl 3 rfl) ?_
      refine lv_iconst (v := 1) hx hb dX10_row_25 (by decide) ?_
      refine lv_bipush (v := 60) hx hb dX10_row_26 (by decide) ?_
      have hp : List.Perm (mW G ad (upd I 0 0) F rw gd gl : va_W) ([] ++ ([((ad 0), .inr (10, [.int 0, .ref (ad 1), .ref (ad 2), .ref (ad 3), .ref (ad 4), .ref (ad 5), .ref (ad 6), .ref (ad 7), .ref (ad 8), .ref (ad 9), .ref (ad 10), .ref (ad 11), .ref (ad 12), .ref (ad 13), .ref (ad 14), .ref (ad 15), .ref (ad 16), .ref (ad 17), .ref (ad 18), .ref (ad 19), .ref (ad 20), .ref (ad 21), .ref (ad 22), .int (I 23), .int (I 24), .int (I 25), .int (I 26), .int (I 27), .int (I 28), .int (I 29), .ref rw, .int (I 31), .int (I 32), .int (I 33), .int (I 34), .int (I 35), .long gd, .long gl, .ref (ad 38), .ref (ad 39), .ref (ad 40), .ref (ad 41), .ref (ad 42), .ref (ad 43), .int (I 44), .int (I 45), .int (I 46), .int (I 47), .int (I 48), .int (I 49)])), ((ad 1), .inl (G.2.2 0, 120, .inl (F 1))), ((ad 2), .inl (G.2.2 0, 2400, .inl (F 2))), ((ad 3), .inl (G.2.2 1, 20, .inl (F 3))), ((ad 4), .inl (G.2.2 1, 20, .inl (F 4))), ((ad 5), .inl (G.2.2 1, 20, .inl (F 5))), ((ad 6), .inl (G.2.2 1, 60, .inl (F 6))), ((ad 7), .inl (G.2.2 1, 60, .inl (F 7))), ((ad 8), .inl (G.2.2 1, 60, .inl (F 8))), ((ad 9), .inl (G.2.2 1, 60, .inl (F 9))), ((ad 10), .inl (G.2.2 1, 100, .inl (F 10))), ((ad 11), .inl (G.2.2 1, 100, .inl (F 11))), ((ad 12), .inl (G.2.2 1, 100, .inl (F 12))), ((ad 13), .inl (G.2.2 1, 100, .inl (F 13))), ((ad 14), .inl (G.2.2 1, 100, .inl (F 14))), ((ad 15), .inl (G.2.2 1, 100, .inl (F 15))), ((ad 16), .inl (G.2.2 1, 100, .inl (F 16))), ((ad 17), .inl (G.2.2 1, 100, .inl (F 17))), ((ad 18), .inl (G.2.2 1, 100, .inl (F 18))), ((ad 19), .inl (G.2.2 1, 6, .inl (F 19))), ((ad 20), .inl (G.2.2 1, 20000, .inl (F 20))), ((ad 21), .inl (G.2.2 1, 20000, .inl (F 21))), ((ad 22), .inl (G.2.2 1, 20000, .inl (F 22))), ((ad 38), .inl (G.2.2 1, 40, .inl (F 38))), ((ad 39), .inl (G.2.2 1, 40, .inl (F 39))), ((ad 40), .inl (G.2.2 1, 2, .inl (F 40))), ((ad 41), .inl (G.2.2 1, 20, .inl (F 41))), ((ad 42), .inl (G.2.2 3, 20, .inl (F 42))), ((ad 43), .inl (G.2.2 3, 20, .inl (F 43)))])) := List.Perm.refl _
      refine k_i C h hp (r_runS C h hp (As := [.int z, .int 1, .int 60]) (rest := []) (m_isIn l G z 1 60) (va_cwS 3 C.1.1.2.2.2.2 gX10_row_X10_isIn rfl rfl rfl (by decide +kernel) ⟨Nat.le_of_ble_eq_true rfl, Nat.le_of_ble_eq_true rfl⟩) rfl hl.1 (Nat.le_of_ble_eq_true rfl) dX10_row_28 ⟨Nat.le_of_ble_eq_true rfl, Nat.le_of_ble_eq_true rfl⟩) (fun r_7 u_8 H locs hw_9 h => ?_)
      have h : gS G A s (mW G ad (upd I 0 0) F rw gd gl) H locs := h
      refine W.widen (k := 0) (n := 0) (Nat.le_of_ble_eq_true rfl) (Nat.le_of_ble_eq_true rfl) ?_
      subst hw_9
      refine lv_if_eq (tgt := 45) hx hb dX10_row_31 (by decide) (fun c_31 => ?_) (fun c_31 => ?_)
      · refine lv_iconst (v := -1) hx hb dX10_row_45 (by decide) ?_
        have hs : (mRow I F t k y z) = ((-1), (upd I 0 0), F) := by simp only [mRow, if_neg c_11, if_neg c_21, if_pos c_31]
        exact r_iret C h hr hlk (Nat.zero_le _) (Nat.zero_le _) () (by rw [hs] <;> rfl) (by rw [hs] <;> rfl) dX10_row_46
      · refine lv_aload_n hx hb dX10_row_34 rfl (lv_at hl 0 rfl) ?_
        refine r_get C h 0 rfl (Cn := RX10) (T := TX10) (N := 50) rfl hinX10 40 (by decide) (index := 86) (ref := "ScaleHouseModel") wd1 rfl (v := .ref (ad 40)) rfl dX10_row_35 ?_
        refine lv_iload_n hx hb dX10_row_38 rfl (lv_at hl 1 rfl) ?_
        refine r_iald C h 25 rfl (i := (nI t)) (vp_in_nI (by omega) (by decide)) dX10_row_39 ?_
        refine lv_cgi (y := (nI k)) (by rw [nn_at (F 40) (by omega), hk]) ?_
        refine lv_bipush (v := 20) hx hb dX10_row_40 (by decide) ?_
        refine lv_icmp_ne (tgt := 47) hx hb dX10_row_42 (by decide) (fun c_42 => ?_) (fun c_42 => ?_)
        · have hk3 : k < 20 := Nat.lt_of_le_of_ne hk2 (fun z9 => c_42 (by rw [z9]; rfl))
          refine lv_aload_n hx hb dX10_row_47 rfl (lv_at hl 0 rfl) ?_
          refine r_get C h 0 rfl (Cn := RX10) (T := TX10) (N := 50) rfl hinX10 38 (by decide) (index := 80) (ref := "ScaleHouseModel") wd2 rfl (v := .ref (ad 38)) rfl dX10_row_48 ?_
          refine lv_bipush (v := 20) hx hb dX10_row_51 (by decide) ?_
          refine lv_iload_n hx hb dX10_row_53 rfl (lv_at hl 1 rfl) ?_
          refine lv_imul hx hb dX10_row_54 ?_
          refine lv_cgi (y := (nI (20 * t))) (by rw [show (20 : Int32) = nI 20 from rfl, pk_mul]) ?_
          refine lv_aload_n hx hb dX10_row_55 rfl (lv_at hl 0 rfl) ?_
          refine r_get C h 0 rfl (Cn := RX10) (T := TX10) (N := 50) rfl hinX10 40 (by decide) (index := 86) (ref := "ScaleHouseModel") wd1 rfl (v := .ref (ad 40)) rfl dX10_row_56 ?_
          refine lv_iload_n hx hb dX10_row_59 rfl (lv_at hl 1 rfl) ?_
          refine r_iald C h 25 rfl (i := (nI t)) (vp_in_nI (by omega) (by decide)) dX10_row_60 ?_
          refine lv_cgi (y := (nI k)) (by rw [nn_at (F 40) (by omega), hk]) ?_
          refine lv_iadd hx hb dX10_row_61 ?_
          refine lv_cgi (y := (nI (20 * t + k))) (by rw [nI_add]) ?_
          refine lv_iload_n hx hb dX10_row_62 rfl (lv_at hl 2 rfl) ?_
          refine r_iast C h 23 rfl (i := (nI (20 * t + k))) (vp_in_nI (by omega) (by decide)) dX10_row_63 (fun H locs h => ?_)
          have h : gS G A s (mW G ad (upd I 0 0) (va_up F 38 (upd (F 38) (nI (20 * t + k)).toNatClampNeg y)) rw gd gl) H locs := h
          rw [show (upd (F 38) (nI (20 * t + k)).toNatClampNeg y) = (upd (F 38) (20 * t + k) y) from nn_up (F 38) (by omega) _] at h
          have h : gS G A s (mW G ad (upd I 0 0) (va_up F 38 (upd (F 38) (20 * t + k) y)) rw gd gl) H locs := h
          refine lv_aload_n hx hb dX10_row_64 rfl (lv_at hl 0 rfl) ?_
          refine r_get C h 0 rfl (Cn := RX10) (T := TX10) (N := 50) rfl hinX10 39 (by decide) (index := 83) (ref := "ScaleHouseModel") wd3 rfl (v := .ref (ad 39)) rfl dX10_row_65 ?_
          refine lv_bipush (v := 20) hx hb dX10_row_68 (by decide) ?_
          refine lv_iload_n hx hb dX10_row_70 rfl (lv_at hl 1 rfl) ?_
          refine lv_imul hx hb dX10_row_71 ?_
          refine lv_cgi (y := (nI (20 * t))) (by rw [show (20 : Int32) = nI 20 from rfl, pk_mul]) ?_
          refine lv_aload_n hx hb dX10_row_72 rfl (lv_at hl 0 rfl) ?_
          refine r_get C h 0 rfl (Cn := RX10) (T := TX10) (N := 50) rfl hinX10 40 (by decide) (index := 86) (ref := "ScaleHouseModel") wd1 rfl (v := .ref (ad 40)) rfl dX10_row_73 ?_
          refine lv_iload_n hx hb dX10_row_76 rfl (lv_at hl 1 rfl) ?_
          refine r_iald C h 25 rfl (i := (nI t)) (vp_in_nI (by omega) (by decide)) dX10_row_77 ?_
          refine lv_cgi (y := ((F 40) (nI t).toNatClampNeg)) rfl ?_
          refine lv_cgi (y := (nI k)) (by rw [nn_at (F 40) (by omega), hk]) ?_
          refine lv_iadd hx hb dX10_row_78 ?_
          refine lv_cgi (y := (nI (20 * t + k))) (by rw [nI_add]) ?_
          refine lv_iload_n hx hb dX10_row_79 rfl (lv_at hl 3 rfl) ?_
          refine r_iast C h 24 rfl (i := (nI (20 * t + k))) (vp_in_nI (by omega) (by decide)) dX10_row_80 (fun H locs h => ?_)
          have h : gS G A s (mW G ad (upd I 0 0) (va_up (va_up F 38 (upd (F 38) (20 * t + k) y)) 39 (upd (F 39) (nI (20 * t + k)).toNatClampNeg z)) rw gd gl) H locs := h
          rw [show (upd (F 39) (nI (20 * t + k)).toNatClampNeg z) = (upd (F 39) (20 * t + k) z) from nn_up (F 39) (by omega) _] at h
          have h : gS G A s (mW G ad (upd I 0 0) (va_up (va_up F 38 (upd (F 38) (20 * t + k) y)) 39 (upd (F 39) (20 * t + k) z)) rw gd gl) H locs := h
          refine lv_aload_n hx hb dX10_row_81 rfl (lv_at hl 0 rfl) ?_
          refine r_get C h 0 rfl (Cn := RX10) (T := TX10) (N := 50) rfl hinX10 40 (by decide) (index := 86) (ref := "ScaleHouseModel") wd1 rfl (v := .ref (ad 40)) rfl dX10_row_82 ?_
          refine lv_iload_n hx hb dX10_row_85 rfl (lv_at hl 1 rfl) ?_
          refine lv_dup2_11 hx hb dX10_row_86 rfl rfl ?_
          refine r_iald C h 25 rfl (i := (nI t)) (vp_in_nI (by omega) (by decide)) dX10_row_87 ?_
          refine lv_cgi (y := ((F 40) (nI t).toNatClampNeg)) rfl ?_
          refine lv_cgi (y := (nI k)) (by rw [nn_at (F 40) (by omega), hk]) ?_
          refine lv_iconst (v := 1) hx hb dX10_row_88 (by decide) ?_
          refine lv_iadd hx hb dX10_row_89 ?_
          refine lv_cgi (y := (nI (k + 1))) (nI_1 k) ?_
          refine r_iast C h 25 rfl (i := (nI t)) (vp_in_nI (by omega) (by decide)) dX10_row_90 (fun H locs h => ?_)
          have h : gS G A s (mW G ad (upd I 0 0) (va_up (va_up (va_up F 38 (upd (F 38) (20 * t + k) y)) 39 (upd (F 39) (20 * t + k) z)) 40 (upd (F 40) (nI t).toNatClampNeg (nI (k + 1)))) rw gd gl) H locs := h
          rw [show (upd (F 40) (nI t).toNatClampNeg (nI (k + 1))) = (upd (F 40) t (nI (k + 1))) from nn_up (F 40) (by omega) _] at h
          have h : gS G A s (mW G ad (upd I 0 0) (va_up (va_up (va_up F 38 (upd (F 38) (20 * t + k) y)) 39 (upd (F 39) (20 * t + k) z)) 40 (upd (F 40) t (nI (k + 1)))) rw gd gl) H locs := h
          refine lv_aload_n hx hb dX10_row_91 rfl (lv_at hl 0 rfl) ?_
          refine r_get C h 0 rfl (Cn := RX10) (T := TX10) (N := 50) rfl hinX10 40 (by decide) (index := 86) (ref := "ScaleHouseModel") wd1 rfl (v := .ref (ad 40)) rfl dX10_row_92 ?_
          refine lv_iload_n hx hb dX10_row_95 rfl (lv_at hl 1 rfl) ?_
          refine r_iald C h 25 rfl (i := (nI t)) (vp_in_nI (by omega) (by decide)) dX10_row_96 ?_
          refine lv_cgi (y := ((upd (F 40) t (nI (k + 1))) (nI t).toNatClampNeg)) rfl ?_
          refine lv_cgi (y := (nI (k + 1))) (by rw [nI_clamp (by omega)]; exact pk_us) ?_
          refine lv_iconst (v := 1) hx hb dX10_row_97 (by decide) ?_
          refine lv_isub hx hb dX10_row_98 ?_
          refine lv_cgi (y := (nI k)) (nI_pred k) ?_
          have hs : (mRow I F t k y z) = ((nI k), (upd I 0 0), (va_up (va_up (va_up F 38 (upd (F 38) (20 * t + k) y)) 39 (upd (F 39) (20 * t + k) z)) 40 (upd (F 40) t (nI (k + 1))))) := by simp only [mRow, if_neg c_11, if_neg c_21, if_neg c_31, if_neg c_42]
          exact r_iret C h hr hlk (Nat.zero_le _) (Nat.zero_le _) () (by rw [hs] <;> rfl) (by rw [hs] <;> rfl) dX10_row_99
        · refine lv_iconst (v := -1) hx hb dX10_row_45 (by decide) ?_
          have hs : (mRow I F t k y z) = ((-1), (upd I 0 0), F) := by simp only [mRow, if_neg c_11, if_neg c_21, if_neg c_31, if_pos c_42]
          exact r_iret C h hr hlk (Nat.zero_le _) (Nat.zero_le _) () (by rw [hs] <;> rfl) (by rw [hs] <;> rfl) dX10_row_46

def mAgr (I : Nat → Int32) (F : Nat → Nat → Int32) (a b : Nat) : Int32 :=
  if (I 44) < (if 0 ≤ ((F 38 a) - (F 38 (20 + b))) then ((F 38 a) - (F 38 (20 + b))) else 0 - ((F 38 a) - (F 38 (20 + b)))) then 0
  else if (I 45) < (if 0 ≤ ((F 39 a) - (F 39 (20 + b))) then ((F 39 a) - (F 39 (20 + b))) else 0 - ((F 39 a) - (F 39 (20 + b)))) then 0
    else 1
set_option maxHeartbeats 4000000 in
set_option maxRecDepth 100000 in
theorem m_agree (l : Launch) (G : gG) (ad : Nat → Nat) (I : Nat → Int32) (F : Nat → Nat → Int32) (rw : Nat) (gd gl : Int64) (a b : Nat) (ha : a < 20) (hb2 : b < 20) : cM l yX10_agree wsX10_agree 1 25 (0) (0) G [.ref (ad 0), .int (nI a), .int (nI b)] (mW G ad I F rw gd gl) (qI G (S := Unit) (fun r _ => r = (mAgr I F a b)) (fun _ => mW G ad I F rw gd gl)) := by
  refine o_M (cc := cX10_agree) (maxL := 3) (ret := (some .boolean)) (own := RX10) (by decide +kernel) rfl rfl (Nat.le_of_ble_eq_true rfl) ?_
  intro p e s m below meth c A ls H locs hA C h hr hlk hnm hl
  have hx := C.1.1.1
  have hb := C.1.1.2.1
  have hl : lv_has ls 3 [(0, .ref (ad 0)), (1, .int (nI a)), (2, .int (nI b))] := hl
  have wd0 : Cond.fieldLink RX10 80 "ScaleHouseModel" "rowD" "[I" ∈ wsX10_agree := by decide +kernel
  have hinX10 : ∀ w ∈ wsX100, w ∈ wsX10_agree := fun _ h => List.mem_cons_of_mem _ (List.mem_append_right _ h)
  have wd1 : Cond.methodLink RX10 256 Lib.Math.abs.name ∈ wsX10_agree := by decide +kernel
  have wd2 : Cond.static Lib.Math.abs.name ∈ wsX10_agree := by decide +kernel
  have wd3 : Cond.initialized "java/lang/Math" ∈ wsX10_agree := by decide +kernel
  have wd4 : Cond.code Lib.Math.abs.name Lib.Math.abs.code 1 (some .int) ∈ wsX10_agree := by decide +kernel
  have wd5 : Cond.fieldLink RX10 250 "ScaleHouseModel" "farD" "I" ∈ wsX10_agree := by decide +kernel
  have wd6 : Cond.fieldLink RX10 83 "ScaleHouseModel" "rowL" "[I" ∈ wsX10_agree := by decide +kernel
  have wd7 : Cond.fieldLink RX10 253 "ScaleHouseModel" "farL" "I" ∈ wsX10_agree := by decide +kernel
  refine lv_aload_n hx hb dX10_agree_0 rfl (lv_at hl 0 rfl) ?_
  refine r_get C h 0 rfl (Cn := RX10) (T := TX10) (N := 50) rfl hinX10 38 (by decide) (index := 80) (ref := "ScaleHouseModel") wd0 rfl (v := .ref (ad 38)) rfl dX10_agree_1 ?_
  refine lv_iload_n hx hb dX10_agree_4 rfl (lv_at hl 1 rfl) ?_
  refine r_iald C h 23 rfl (i := (nI a)) (vp_in_nI (by omega) (by decide)) dX10_agree_5 ?_
  refine lv_cgi (y := (F 38 a)) (nn_at (F 38) (by omega)) ?_
  refine lv_aload_n hx hb dX10_agree_6 rfl (lv_at hl 0 rfl) ?_
  refine r_get C h 0 rfl (Cn := RX10) (T := TX10) (N := 50) rfl hinX10 38 (by decide) (index := 80) (ref := "ScaleHouseModel") wd0 rfl (v := .ref (ad 38)) rfl dX10_agree_7 ?_
  refine lv_bipush (v := 20) hx hb dX10_agree_10 (by decide) ?_
  refine lv_iload_n hx hb dX10_agree_12 rfl (lv_at hl 2 rfl) ?_
  refine lv_iadd hx hb dX10_agree_13 ?_
  refine lv_cgi (y := (nI (20 + b))) (by rw [show (20 : Int32) = nI 20 from rfl, nI_add]) ?_
  refine r_iald C h 23 rfl (i := (nI (20 + b))) (vp_in_nI (by omega) (by decide)) dX10_agree_14 ?_
  refine lv_cgi (y := (F 38 (20 + b))) (nn_at (F 38) (by omega)) ?_
  refine lv_isub hx hb dX10_agree_15 ?_
  refine va_mabs hx hb (C.1.1.2.2.1.trans hl.1.symm) C.1.1.2.2.2.1 (C.1.1.2.2.2.2 _ wd1) (C.1.1.2.2.2.2 _ wd2) (C.1.1.2.2.2.2 _ wd3) (C.1.1.2.2.2.2 _ wd4) (Nat.le_of_ble_eq_true rfl) (Nat.le_of_ble_eq_true rfl) (Nat.le_of_ble_eq_true rfl) (Nat.le_of_ble_eq_true rfl) dX10_agree_16 ?_
  refine lv_aload_n hx hb dX10_agree_19 rfl (lv_at hl 0 rfl) ?_
  refine r_get C h 0 rfl (Cn := RX10) (T := TX10) (N := 50) rfl hinX10 44 (by decide) (index := 250) (ref := "ScaleHouseModel") wd5 rfl (v := .int (I 44)) rfl dX10_agree_20 ?_
  refine lv_icmp_gt (tgt := 56) hx hb dX10_agree_23 (by decide) (fun c_23 => ?_) (fun c_23 => ?_)
  · refine lv_iconst (v := 0) hx hb dX10_agree_56 (by decide) ?_
    have hs : (mAgr I F a b) = 0 := by simp only [mAgr, if_pos c_23]
    exact r_zret C h hr hlk (Nat.zero_le _) (Nat.zero_le _) (Or.inl rfl) () (by rw [hs] <;> rfl) (rfl) dX10_agree_57
  · refine lv_aload_n hx hb dX10_agree_26 rfl (lv_at hl 0 rfl) ?_
    refine r_get C h 0 rfl (Cn := RX10) (T := TX10) (N := 50) rfl hinX10 39 (by decide) (index := 83) (ref := "ScaleHouseModel") wd6 rfl (v := .ref (ad 39)) rfl dX10_agree_27 ?_
    refine lv_iload_n hx hb dX10_agree_30 rfl (lv_at hl 1 rfl) ?_
    refine r_iald C h 24 rfl (i := (nI a)) (vp_in_nI (by omega) (by decide)) dX10_agree_31 ?_
    refine lv_cgi (y := (F 39 a)) (nn_at (F 39) (by omega)) ?_
    refine lv_aload_n hx hb dX10_agree_32 rfl (lv_at hl 0 rfl) ?_
    refine r_get C h 0 rfl (Cn := RX10) (T := TX10) (N := 50) rfl hinX10 39 (by decide) (index := 83) (ref := "ScaleHouseModel") wd6 rfl (v := .ref (ad 39)) rfl dX10_agree_33 ?_
    refine lv_bipush (v := 20) hx hb dX10_agree_36 (by decide) ?_
    refine lv_iload_n hx hb dX10_agree_38 rfl (lv_at hl 2 rfl) ?_
    refine lv_iadd hx hb dX10_agree_39 ?_
    refine lv_cgi (y := (nI (20 + b))) (by rw [show (20 : Int32) = nI 20 from rfl, nI_add]) ?_
    refine r_iald C h 24 rfl (i := (nI (20 + b))) (vp_in_nI (by omega) (by decide)) dX10_agree_40 ?_
    refine lv_cgi (y := (F 39 (20 + b))) (nn_at (F 39) (by omega)) ?_
    refine lv_isub hx hb dX10_agree_41 ?_
    refine va_mabs hx hb (C.1.1.2.2.1.trans hl.1.symm) C.1.1.2.2.2.1 (C.1.1.2.2.2.2 _ wd1) (C.1.1.2.2.2.2 _ wd2) (C.1.1.2.2.2.2 _ wd3) (C.1.1.2.2.2.2 _ wd4) (Nat.le_of_ble_eq_true rfl) (Nat.le_of_ble_eq_true rfl) (Nat.le_of_ble_eq_true rfl) (Nat.le_of_ble_eq_true rfl) dX10_agree_42 ?_
    refine lv_aload_n hx hb dX10_agree_45 rfl (lv_at hl 0 rfl) ?_
    refine r_get C h 0 rfl (Cn := RX10) (T := TX10) (N := 50) rfl hinX10 45 (by decide) (index := 253) (ref := "ScaleHouseModel") wd7 rfl (v := .int (I 45)) rfl dX10_agree_46 ?_
    refine lv_icmp_gt (tgt := 56) hx hb dX10_agree_49 (by decide) (fun c_49 => ?_) (fun c_49 => ?_)
    · refine lv_iconst (v := 0) hx hb dX10_agree_56 (by decide) ?_
      have hs : (mAgr I F a b) = 0 := by simp only [mAgr, if_neg c_23, if_pos c_49]
      exact r_zret C h hr hlk (Nat.zero_le _) (Nat.zero_le _) (Or.inl rfl) () (by rw [hs] <;> rfl) (rfl) dX10_agree_57
    · refine lv_iconst (v := 1) hx hb dX10_agree_52 (by decide) ?_
      refine lv_goto (tgt := 57) hx hb dX10_agree_53 (by decide) ?_
      have hs : (mAgr I F a b) = 1 := by simp only [mAgr, if_neg c_23, if_neg c_49]
      exact r_zret C h hr hlk (Nat.zero_le _) (Nat.zero_le _) (Or.inr rfl) () (by rw [hs] <;> rfl) (rfl) dX10_agree_57

set_option maxHeartbeats 4000000 in
set_option maxRecDepth 100000 in
theorem lp_X10_free {p : Program} {l : Launch} {e : Env} {R : Room} {s : State} {m : MethodId} {args : Array Value} {below : List Frame} {meth : Method} {c : Code} {cells slots : Nat} {Q : State → Prop} {G : gG} {A : Nat → Prop} (C : gC p m c cX10_free 2 s args wsX10_free RX10 G A) (ad : Nat → Nat) (I : Nat → Int32) (F : Nat → Nat → Int32) (rw : Nat) (gd gl : Int64) (f : Nat → Int32) (kx : ∀ (H : Heap) (locs : List Loc) (ls : Array Slot), gS G A s (mW G ad I (va_up F 42 (flF 0 20 f)) rw gd gl) H locs → W p l e R s m args below meth c H locs cells slots Q (F0 m 21 ls [])) :
    ∀ (r : Nat) (i : Nat) (H : Heap) (locs : List Loc) (ls : Array Slot), (i + r = 20) →  gS G A s (mW G ad I (va_up F 42 (flF 0 i f)) rw gd gl) H locs → lv_has ls 2 [(0, .ref (ad 0)), (1, .int (nI i))] → W p l e R s m args below meth c H locs cells slots Q (F0 m 2 ls []) := by
  have hx := C.1.1.1
  have hb := C.1.1.2.1
  have wd0 : Cond.fieldLink RX10 92 "ScaleHouseModel" "isTaken" "[Z" ∈ wsX10_free := by decide +kernel
  have hinX10 : ∀ w ∈ wsX100, w ∈ wsX10_free := fun _ h => List.mem_cons_of_mem _ (List.mem_append_right _ h)
  intro r
  induction r with
  | zero =>
    intro i H locs ls hi h hl
    refine lv_iload_n hx hb dX10_free_2 rfl (lv_at hl 1 rfl) ?_
    refine lv_bipush (v := 20) hx hb dX10_free_3 (by decide) ?_
    refine lv_icmp_ge (tgt := 21) hx hb dX10_free_5 (by decide) (fun c_5 => ?_) (fun c_5 => ?_)
    · obtain rfl : i = 20 := by omega
      exact kx _ _ ls h
    · exact absurd (by rw [show i = 20 by omega]; decide) c_5
  | succ r ih =>
    intro i H locs ls hi h hl
    refine lv_iload_n hx hb dX10_free_2 rfl (lv_at hl 1 rfl) ?_
    refine lv_bipush (v := 20) hx hb dX10_free_3 (by decide) ?_
    refine lv_icmp_ge (tgt := 21) hx hb dX10_free_5 (by decide) (fun c_5 => ?_) (fun c_5 => ?_)
    · exact absurd c_5 (nI_ge (b := 20) (by omega) (by decide))
    · refine lv_aload_n hx hb dX10_free_8 rfl (lv_at hl 0 rfl) ?_
      refine r_get C h 0 rfl (Cn := RX10) (T := TX10) (N := 50) rfl hinX10 42 (by decide) (index := 92) (ref := "ScaleHouseModel") wd0 rfl (v := .ref (ad 42)) rfl dX10_free_9 ?_
      refine lv_iload_n hx hb dX10_free_12 rfl (lv_at hl 1 rfl) ?_
      refine lv_iconst (v := 0) hx hb dX10_free_13 (by decide) ?_
      refine r_zast C h 27 rfl (i := (nI i)) (vp_in_nI (by omega) (by decide)) dX10_free_14 (fun H locs h => ?_)
      have h : gS G A s (mW G ad I (va_up F 42 (upd (flF 0 i f) (nI i).toNatClampNeg (vp_nar .boolean 0))) rw gd gl) H locs := h
      rw [show (upd (flF 0 i f) (nI i).toNatClampNeg (vp_nar .boolean 0)) = (flF 0 (i + 1) f) from by rw [nI_clamp (by omega), show vp_nar .boolean 0 = 0 from rfl, flF_s]] at h
      have h : gS G A s (mW G ad I (va_up F 42 (flF 0 (i + 1) f)) rw gd gl) H locs := h
      refine lv_iinc (v := nI (i + 1)) (lv' := [(1, .int (nI (i + 1))), (0, .ref (ad 0))]) hx hb dX10_free_15 hl (k := 1) rfl (nI_1 _) (by decide) rfl (fun ls hl => ?_)
      refine lv_goto (tgt := 2) hx hb dX10_free_18 (by decide) ?_
      exact ih (i + 1) _ _ ls (by omega) h (lv_sub hl [1, 0] rfl)

set_option maxHeartbeats 4000000 in
set_option maxRecDepth 100000 in
theorem m_free (l : Launch) (G : gG) (ad : Nat → Nat) (I : Nat → Int32) (F : Nat → Nat → Int32) (rw : Nat) (gd gl : Int64) : cM l yX10_free wsX10_free 0 0 (0) (0) G [.ref (ad 0)] (mW G ad I F rw gd gl) (qV G (S := Unit) (fun _ => True) (fun _ => mW G ad I (va_up F 42 (flF 0 20 (F 42))) rw gd gl)) := by
  refine o_M (cc := cX10_free) (maxL := 2) (ret := none) (own := RX10) (by decide +kernel) rfl rfl (Nat.le_of_ble_eq_true rfl) ?_
  intro p e s m below meth c A ls H locs hA C h hr hlk hnm hl
  have hx := C.1.1.1
  have hb := C.1.1.2.1
  have hl : lv_has ls 2 [(0, .ref (ad 0))] := hl
  refine lv_iconst (v := 0) hx hb dX10_free_0 (by decide) ?_
  refine lv_istore_n (lv' := [(1, .int 0), (0, .ref (ad 0))]) hx hb dX10_free_1 rfl hl (by decide) rfl (fun ls hl => ?_)
  refine lp_X10_free C ad I F rw gd gl (F 42) (fun H locs ls h => ?_) 20 0 _ _ ls (by omega) h (lv_sub hl [1, 0] rfl)
  exact r_vret C h hr hlk (Nat.zero_le _) (Nat.zero_le _) () trivial rfl dX10_free_21
