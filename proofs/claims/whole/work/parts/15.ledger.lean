/-! ===== ScaleHouse$Ledger: its rows grow with the lines ===== -/
def lcap (n : Nat) : Nat := if n ≤ 32 then 32 else if n ≤ 64 then 64 else if n ≤ 128 then 128 else if n ≤ 256 then 256 else if n ≤ 512 then 512 else if n ≤ 1024 then 1024 else if n ≤ 2048 then 2048 else if n ≤ 4096 then 4096 else if n ≤ 8192 then 8192 else if n ≤ 16384 then 16384 else 20000
/-- cells and slots that growing has taken when there are n lines -/
def ltC (n : Nat) : Nat := if n ≤ 32 then 0 else if n ≤ 64 then 3 else if n ≤ 128 then 6 else if n ≤ 256 then 9 else if n ≤ 512 then 12 else if n ≤ 1024 then 15 else if n ≤ 2048 then 18 else if n ≤ 4096 then 21 else if n ≤ 8192 then 24 else if n ≤ 16384 then 27 else 30
def ltS (n : Nat) : Nat := if n ≤ 32 then 0 else if n ≤ 64 then 192 else if n ≤ 128 then 576 else if n ≤ 256 then 1344 else if n ≤ 512 then 2880 else if n ≤ 1024 then 5952 else if n ≤ 2048 then 12096 else if n ≤ 4096 then 24384 else if n ≤ 8192 then 48960 else if n ≤ 16384 then 98112 else 158112
theorem lbr_0 {n : Nat} (h2 : n ≤ 32) : lcap n = 32 ∧ ltC n = 0 ∧ ltS n = 0 := ⟨by rw [lcap, if_pos h2], by rw [ltC, if_pos h2], by rw [ltS, if_pos h2]⟩
theorem lbr_1 {n : Nat} (h1 : 32 < n) (h2 : n ≤ 64) : lcap n = 64 ∧ ltC n = 3 ∧ ltS n = 192 := ⟨by rw [lcap, if_neg (show ¬ n ≤ 32 by omega), if_pos h2], by rw [ltC, if_neg (show ¬ n ≤ 32 by omega), if_pos h2], by rw [ltS, if_neg (show ¬ n ≤ 32 by omega), if_pos h2]⟩
theorem lbr_2 {n : Nat} (h1 : 64 < n) (h2 : n ≤ 128) : lcap n = 128 ∧ ltC n = 6 ∧ ltS n = 576 := ⟨by rw [lcap, if_neg (show ¬ n ≤ 32 by omega), if_neg (show ¬ n ≤ 64 by omega), if_pos h2], by rw [ltC, if_neg (show ¬ n ≤ 32 by omega), if_neg (show ¬ n ≤ 64 by omega), if_pos h2], by rw [ltS, if_neg (show ¬ n ≤ 32 by omega), if_neg (show ¬ n ≤ 64 by omega), if_pos h2]⟩
theorem lbr_3 {n : Nat} (h1 : 128 < n) (h2 : n ≤ 256) : lcap n = 256 ∧ ltC n = 9 ∧ ltS n = 1344 := ⟨by rw [lcap, if_neg (show ¬ n ≤ 32 by omega), if_neg (show ¬ n ≤ 64 by omega), if_neg (show ¬ n ≤ 128 by omega), if_pos h2], by rw [ltC, if_neg (show ¬ n ≤ 32 by omega), if_neg (show ¬ n ≤ 64 by omega), if_neg (show ¬ n ≤ 128 by omega), if_pos h2], by rw [ltS, if_neg (show ¬ n ≤ 32 by omega), if_neg (show ¬ n ≤ 64 by omega), if_neg (show ¬ n ≤ 128 by omega), if_pos h2]⟩
theorem lbr_4 {n : Nat} (h1 : 256 < n) (h2 : n ≤ 512) : lcap n = 512 ∧ ltC n = 12 ∧ ltS n = 2880 := ⟨by rw [lcap, if_neg (show ¬ n ≤ 32 by omega), if_neg (show ¬ n ≤ 64 by omega), if_neg (show ¬ n ≤ 128 by omega), if_neg (show ¬ n ≤ 256 by omega), if_pos h2], by rw [ltC, if_neg (show ¬ n ≤ 32 by omega), if_neg (show ¬ n ≤ 64 by omega), if_neg (show ¬ n ≤ 128 by omega), if_neg (show ¬ n ≤ 256 by omega), if_pos h2], by rw [ltS, if_neg (show ¬ n ≤ 32 by omega), if_neg (show ¬ n ≤ 64 by omega), if_neg (show ¬ n ≤ 128 by omega), if_neg (show ¬ n ≤ 256 by omega), if_pos h2]⟩
theorem lbr_5 {n : Nat} (h1 : 512 < n) (h2 : n ≤ 1024) : lcap n = 1024 ∧ ltC n = 15 ∧ ltS n = 5952 := ⟨by rw [lcap, if_neg (show ¬ n ≤ 32 by omega), if_neg (show ¬ n ≤ 64 by omega), if_neg (show ¬ n ≤ 128 by omega), if_neg (show ¬ n ≤ 256 by omega), if_neg (show ¬ n ≤ 512 by omega), if_pos h2], by rw [ltC, if_neg (show ¬ n ≤ 32 by omega), if_neg (show ¬ n ≤ 64 by omega), if_neg (show ¬ n ≤ 128 by omega), if_neg (show ¬ n ≤ 256 by omega), if_neg (show ¬ n ≤ 512 by omega), if_pos h2], by rw [ltS, if_neg (show ¬ n ≤ 32 by omega), if_neg (show ¬ n ≤ 64 by omega), if_neg (show ¬ n ≤ 128 by omega), if_neg (show ¬ n ≤ 256 by omega), if_neg (show ¬ n ≤ 512 by omega), if_pos h2]⟩
theorem lbr_6 {n : Nat} (h1 : 1024 < n) (h2 : n ≤ 2048) : lcap n = 2048 ∧ ltC n = 18 ∧ ltS n = 12096 := ⟨by rw [lcap, if_neg (show ¬ n ≤ 32 by omega), if_neg (show ¬ n ≤ 64 by omega), if_neg (show ¬ n ≤ 128 by omega), if_neg (show ¬ n ≤ 256 by omega), if_neg (show ¬ n ≤ 512 by omega), if_neg (show ¬ n ≤ 1024 by omega), if_pos h2], by rw [ltC, if_neg (show ¬ n ≤ 32 by omega), if_neg (show ¬ n ≤ 64 by omega), if_neg (show ¬ n ≤ 128 by omega), if_neg (show ¬ n ≤ 256 by omega), if_neg (show ¬ n ≤ 512 by omega), if_neg (show ¬ n ≤ 1024 by omega), if_pos h2], by rw [ltS, if_neg (show ¬ n ≤ 32 by omega), if_neg (show ¬ n ≤ 64 by omega), if_neg (show ¬ n ≤ 128 by omega), if_neg (show ¬ n ≤ 256 by omega), if_neg (show ¬ n ≤ 512 by omega), if_neg (show ¬ n ≤ 1024 by omega), if_pos h2]⟩
theorem lbr_7 {n : Nat} (h1 : 2048 < n) (h2 : n ≤ 4096) : lcap n = 4096 ∧ ltC n = 21 ∧ ltS n = 24384 := ⟨by rw [lcap, if_neg (show ¬ n ≤ 32 by omega), if_neg (show ¬ n ≤ 64 by omega), if_neg (show ¬ n ≤ 128 by omega), if_neg (show ¬ n ≤ 256 by omega), if_neg (show ¬ n ≤ 512 by omega), if_neg (show ¬ n ≤ 1024 by omega), if_neg (show ¬ n ≤ 2048 by omega), if_pos h2], by rw [ltC, if_neg (show ¬ n ≤ 32 by omega), if_neg (show ¬ n ≤ 64 by omega), if_neg (show ¬ n ≤ 128 by omega), if_neg (show ¬ n ≤ 256 by omega), if_neg (show ¬ n ≤ 512 by omega), if_neg (show ¬ n ≤ 1024 by omega), if_neg (show ¬ n ≤ 2048 by omega), if_pos h2], by rw [ltS, if_neg (show ¬ n ≤ 32 by omega), if_neg (show ¬ n ≤ 64 by omega), if_neg (show ¬ n ≤ 128 by omega), if_neg (show ¬ n ≤ 256 by omega), if_neg (show ¬ n ≤ 512 by omega), if_neg (show ¬ n ≤ 1024 by omega), if_neg (show ¬ n ≤ 2048 by omega), if_pos h2]⟩
theorem lbr_8 {n : Nat} (h1 : 4096 < n) (h2 : n ≤ 8192) : lcap n = 8192 ∧ ltC n = 24 ∧ ltS n = 48960 := ⟨by rw [lcap, if_neg (show ¬ n ≤ 32 by omega), if_neg (show ¬ n ≤ 64 by omega), if_neg (show ¬ n ≤ 128 by omega), if_neg (show ¬ n ≤ 256 by omega), if_neg (show ¬ n ≤ 512 by omega), if_neg (show ¬ n ≤ 1024 by omega), if_neg (show ¬ n ≤ 2048 by omega), if_neg (show ¬ n ≤ 4096 by omega), if_pos h2], by rw [ltC, if_neg (show ¬ n ≤ 32 by omega), if_neg (show ¬ n ≤ 64 by omega), if_neg (show ¬ n ≤ 128 by omega), if_neg (show ¬ n ≤ 256 by omega), if_neg (show ¬ n ≤ 512 by omega), if_neg (show ¬ n ≤ 1024 by omega), if_neg (show ¬ n ≤ 2048 by omega), if_neg (show ¬ n ≤ 4096 by omega), if_pos h2], by rw [ltS, if_neg (show ¬ n ≤ 32 by omega), if_neg (show ¬ n ≤ 64 by omega), if_neg (show ¬ n ≤ 128 by omega), if_neg (show ¬ n ≤ 256 by omega), if_neg (show ¬ n ≤ 512 by omega), if_neg (show ¬ n ≤ 1024 by omega), if_neg (show ¬ n ≤ 2048 by omega), if_neg (show ¬ n ≤ 4096 by omega), if_pos h2]⟩
theorem lbr_9 {n : Nat} (h1 : 8192 < n) (h2 : n ≤ 16384) : lcap n = 16384 ∧ ltC n = 27 ∧ ltS n = 98112 := ⟨by rw [lcap, if_neg (show ¬ n ≤ 32 by omega), if_neg (show ¬ n ≤ 64 by omega), if_neg (show ¬ n ≤ 128 by omega), if_neg (show ¬ n ≤ 256 by omega), if_neg (show ¬ n ≤ 512 by omega), if_neg (show ¬ n ≤ 1024 by omega), if_neg (show ¬ n ≤ 2048 by omega), if_neg (show ¬ n ≤ 4096 by omega), if_neg (show ¬ n ≤ 8192 by omega), if_pos h2], by rw [ltC, if_neg (show ¬ n ≤ 32 by omega), if_neg (show ¬ n ≤ 64 by omega), if_neg (show ¬ n ≤ 128 by omega), if_neg (show ¬ n ≤ 256 by omega), if_neg (show ¬ n ≤ 512 by omega), if_neg (show ¬ n ≤ 1024 by omega), if_neg (show ¬ n ≤ 2048 by omega), if_neg (show ¬ n ≤ 4096 by omega), if_neg (show ¬ n ≤ 8192 by omega), if_pos h2], by rw [ltS, if_neg (show ¬ n ≤ 32 by omega), if_neg (show ¬ n ≤ 64 by omega), if_neg (show ¬ n ≤ 128 by omega), if_neg (show ¬ n ≤ 256 by omega), if_neg (show ¬ n ≤ 512 by omega), if_neg (show ¬ n ≤ 1024 by omega), if_neg (show ¬ n ≤ 2048 by omega), if_neg (show ¬ n ≤ 4096 by omega), if_neg (show ¬ n ≤ 8192 by omega), if_pos h2]⟩
theorem lbr_10 {n : Nat} (h1 : 16384 < n) (h2 : n ≤ 20000) : lcap n = 20000 ∧ ltC n = 30 ∧ ltS n = 158112 := ⟨by rw [lcap, if_neg (show ¬ n ≤ 32 by omega), if_neg (show ¬ n ≤ 64 by omega), if_neg (show ¬ n ≤ 128 by omega), if_neg (show ¬ n ≤ 256 by omega), if_neg (show ¬ n ≤ 512 by omega), if_neg (show ¬ n ≤ 1024 by omega), if_neg (show ¬ n ≤ 2048 by omega), if_neg (show ¬ n ≤ 4096 by omega), if_neg (show ¬ n ≤ 8192 by omega), if_neg (show ¬ n ≤ 16384 by omega)], by rw [ltC, if_neg (show ¬ n ≤ 32 by omega), if_neg (show ¬ n ≤ 64 by omega), if_neg (show ¬ n ≤ 128 by omega), if_neg (show ¬ n ≤ 256 by omega), if_neg (show ¬ n ≤ 512 by omega), if_neg (show ¬ n ≤ 1024 by omega), if_neg (show ¬ n ≤ 2048 by omega), if_neg (show ¬ n ≤ 4096 by omega), if_neg (show ¬ n ≤ 8192 by omega), if_neg (show ¬ n ≤ 16384 by omega)], by rw [ltS, if_neg (show ¬ n ≤ 32 by omega), if_neg (show ¬ n ≤ 64 by omega), if_neg (show ¬ n ≤ 128 by omega), if_neg (show ¬ n ≤ 256 by omega), if_neg (show ¬ n ≤ 512 by omega), if_neg (show ¬ n ≤ 1024 by omega), if_neg (show ¬ n ≤ 2048 by omega), if_neg (show ¬ n ≤ 4096 by omega), if_neg (show ¬ n ≤ 8192 by omega), if_neg (show ¬ n ≤ 16384 by omega)]⟩
theorem lbr {n : Nat} (h : n ≤ 20000) : (n ≤ 32 ∧ lcap n = 32 ∧ ltC n = 0 ∧ ltS n = 0) ∨ (32 < n ∧ n ≤ 64 ∧ lcap n = 64 ∧ ltC n = 3 ∧ ltS n = 192) ∨ (64 < n ∧ n ≤ 128 ∧ lcap n = 128 ∧ ltC n = 6 ∧ ltS n = 576) ∨ (128 < n ∧ n ≤ 256 ∧ lcap n = 256 ∧ ltC n = 9 ∧ ltS n = 1344) ∨ (256 < n ∧ n ≤ 512 ∧ lcap n = 512 ∧ ltC n = 12 ∧ ltS n = 2880) ∨ (512 < n ∧ n ≤ 1024 ∧ lcap n = 1024 ∧ ltC n = 15 ∧ ltS n = 5952) ∨ (1024 < n ∧ n ≤ 2048 ∧ lcap n = 2048 ∧ ltC n = 18 ∧ ltS n = 12096) ∨ (2048 < n ∧ n ≤ 4096 ∧ lcap n = 4096 ∧ ltC n = 21 ∧ ltS n = 24384) ∨ (4096 < n ∧ n ≤ 8192 ∧ lcap n = 8192 ∧ ltC n = 24 ∧ ltS n = 48960) ∨ (8192 < n ∧ n ≤ 16384 ∧ lcap n = 16384 ∧ ltC n = 27 ∧ ltS n = 98112) ∨ (16384 < n ∧ n ≤ 20000 ∧ lcap n = 20000 ∧ ltC n = 30 ∧ ltS n = 158112) := by
  by_cases z0 : n ≤ 32
  · exact Or.inl ⟨z0, lbr_0 z0⟩
  by_cases z1 : n ≤ 64
  · exact Or.inr (Or.inl ⟨by omega, z1, lbr_1 (by omega) z1⟩)
  by_cases z2 : n ≤ 128
  · exact Or.inr (Or.inr (Or.inl ⟨by omega, z2, lbr_2 (by omega) z2⟩))
  by_cases z3 : n ≤ 256
  · exact Or.inr (Or.inr (Or.inr (Or.inl ⟨by omega, z3, lbr_3 (by omega) z3⟩)))
  by_cases z4 : n ≤ 512
  · exact Or.inr (Or.inr (Or.inr (Or.inr (Or.inl ⟨by omega, z4, lbr_4 (by omega) z4⟩))))
  by_cases z5 : n ≤ 1024
  · exact Or.inr (Or.inr (Or.inr (Or.inr (Or.inr (Or.inl ⟨by omega, z5, lbr_5 (by omega) z5⟩)))))
  by_cases z6 : n ≤ 2048
  · exact Or.inr (Or.inr (Or.inr (Or.inr (Or.inr (Or.inr (Or.inl ⟨by omega, z6, lbr_6 (by omega) z6⟩))))))
  by_cases z7 : n ≤ 4096
  · exact Or.inr (Or.inr (Or.inr (Or.inr (Or.inr (Or.inr (Or.inr (Or.inl ⟨by omega, z7, lbr_7 (by omega) z7⟩)))))))
  by_cases z8 : n ≤ 8192
  · exact Or.inr (Or.inr (Or.inr (Or.inr (Or.inr (Or.inr (Or.inr (Or.inr (Or.inl ⟨by omega, z8, lbr_8 (by omega) z8⟩))))))))
  by_cases z9 : n ≤ 16384
  · exact Or.inr (Or.inr (Or.inr (Or.inr (Or.inr (Or.inr (Or.inr (Or.inr (Or.inr (Or.inl ⟨by omega, z9, lbr_9 (by omega) z9⟩)))))))))
  exact Or.inr (Or.inr (Or.inr (Or.inr (Or.inr (Or.inr (Or.inr (Or.inr (Or.inr (Or.inr (⟨by omega, h, lbr_10 (by omega) h⟩))))))))))
theorem lcap_ge {n : Nat} (h : n ≤ 20000) : n ≤ lcap n ∧ lcap n ≤ 20000 ∧ 32 ≤ lcap n := by
  rcases lbr h with z | z | z | z | z | z | z | z | z | z | z <;> omega
theorem lcap_lt {n : Nat} (h : n < 20000) (h2 : n < lcap n) : lcap (n + 1) = lcap n ∧ ltC (n + 1) = ltC n ∧ ltS (n + 1) = ltS n := by
  have a := lbr (n := n) (by omega)
  have b := lbr (n := n + 1) (by omega)
  rcases a with z | z | z | z | z | z | z | z | z | z | z <;> rcases b with y | y | y | y | y | y | y | y | y | y | y <;> omega
theorem lcap_eq {n : Nat} (h : n < 20000) (h2 : ¬ n < lcap n) : n = lcap n ∧ lcap (n + 1) = min 20000 (2 * n) ∧ n < lcap (n + 1) ∧ ltC (n + 1) = ltC n + 3 ∧ ltS (n + 1) = ltS n + (lcap (n + 1) + lcap (n + 1) + lcap (n + 1)) ∧ n ≤ 16384 := by
  have a := lbr (n := n) (by omega)
  have b := lbr (n := n + 1) (by omega)
  rcases a with z | z | z | z | z | z | z | z | z | z | z <;> rcases b with y | y | y | y | y | y | y | y | y | y | y <;> omega

set_option maxHeartbeats 4000000 in
set_option maxRecDepth 100000 in
theorem d_init (l : Launch) (G : gG) (h0 : Nat) : cM l yX2_init wsX2_init 1 20 (3) (96) G [.ref h0] ([(h0, .inr (2, [.null, .null, .null, .int 0, .int 0]))]) (qV G (S := Nat × Nat × Nat) (fun _ => True) (fun u => [(h0, .inr (2, [.ref u.1, .ref u.2.1, .ref u.2.2, .int (nI 0), .int 0])), (u.1, .inl (G.2.2 1, 32, .inl (fun _ => 0))), (u.2.1, .inl (G.2.2 1, 32, .inl (fun _ => 0))), (u.2.2, .inl (G.2.2 1, 32, .inl (fun _ => 0)))])) := by
  refine o_M (cc := cX2_init) (maxL := 1) (ret := none) (own := RX2) (by decide +kernel) rfl rfl (Nat.le_of_ble_eq_true rfl) ?_
  intro p e s m below meth c A ls H locs hA C h hr hlk hnm hl
  have hx := C.1.1.1
  have hb := C.1.1.2.1
  have hl : lv_has ls 1 [(0, .ref h0)] := hl
  have wd0 : Cond.methodLink RX2 3 objectInit ∈ wsX2_init := by decide +kernel
  have wd1 : Cond.instanceMethod objectInit ∈ wsX2_init := by decide +kernel
  have wd2 : Cond.code objectInit ⟨#[0xb1]⟩ 1 none ∈ wsX2_init := by decide +kernel
  have wd3 : Cond.arrayClass .int ∈ wsX2_init := by decide +kernel
  have wd4 : Cond.fieldLink RX2 9 "ScaleHouse$Ledger" "days" "[I" ∈ wsX2_init := by decide +kernel
  have hinX2 : ∀ w ∈ wsX20, w ∈ wsX2_init := by decide +kernel
  have wd5 : Cond.fieldLink RX2 15 "ScaleHouse$Ledger" "logs" "[I" ∈ wsX2_init := by decide +kernel
  have wd6 : Cond.fieldLink RX2 18 "ScaleHouse$Ledger" "coins" "[I" ∈ wsX2_init := by decide +kernel
  have wd7 : Cond.fieldLink RX2 21 "ScaleHouse$Ledger" "size" "I" ∈ wsX2_init := by decide +kernel
  have wd8 : Cond.fieldLink RX2 25 "ScaleHouse$Ledger" "allCoins" "I" ∈ wsX2_init := by decide +kernel
  refine lv_aload_n hx hb dX2_init_0 rfl (lv_at hl 0 rfl) ?_
  refine r_objInit C wd0 wd1 wd2 hl.1 dX2_init_1 (Nat.le_of_ble_eq_true rfl) (Nat.le_of_ble_eq_true rfl) ?_
  refine lv_aload_n hx hb dX2_init_4 rfl (lv_at hl 0 rfl) ?_
  refine lv_bipush (v := 32) hx hb dX2_init_5 (by decide) ?_
  refine r_newa C h (ty := .int) rfl 1 (cA := G.2.2 1) rfl (fun z => z) wd3 (n := 32) (N' := 32) (a0 := (32, .inl (fun _ => 0))) (fun _ => rfl) (by decide) (rfl) (by decide) (Nat.le_of_ble_eq_true rfl) (Nat.le_of_ble_eq_true rfl) dX2_init_7 (fun q1 H h => ?_)
  refine W.widen (k := 1) (n := 32) (Nat.le_of_ble_eq_true rfl) (Nat.le_of_ble_eq_true rfl) ?_
  have h : gS G A s ([(h0, .inr (2, [.null, .null, .null, .int 0, .int 0])), (q1, .inl (G.2.2 1, 32, .inl (fun _ => 0)))]) H locs := h
  refine r_put C h 0 rfl (Cn := RX2) (T := TX2) (N := 5) rfl hinX2 tyX2 tyX2_ok nmX2 0 (by decide) (index := 9) (ref := "ScaleHouse$Ledger") wd4 rfl rfl (v := .ref q1) rfl rfl (show 0 < 5 by decide) dX2_init_9 (fun H locs h => ?_)
  have h : gS G A s ([(h0, .inr (2, [.ref q1, .null, .null, .int 0, .int 0])), (q1, .inl (G.2.2 1, 32, .inl (fun _ => 0)))]) H locs := h
  refine lv_aload_n hx hb dX2_init_12 rfl (lv_at hl 0 rfl) ?_
  refine lv_bipush (v := 32) hx hb dX2_init_13 (by decide) ?_
  refine r_newa C h (ty := .int) rfl 1 (cA := G.2.2 1) rfl (fun z => z) wd3 (n := 32) (N' := 32) (a0 := (32, .inl (fun _ => 0))) (fun _ => rfl) (by decide) (rfl) (by decide) (Nat.le_of_ble_eq_true rfl) (Nat.le_of_ble_eq_true rfl) dX2_init_15 (fun q2 H h => ?_)
  refine W.widen (k := 2) (n := 64) (Nat.le_of_ble_eq_true rfl) (Nat.le_of_ble_eq_true rfl) ?_
  have h : gS G A s ([(h0, .inr (2, [.ref q1, .null, .null, .int 0, .int 0])), (q1, .inl (G.2.2 1, 32, .inl (fun _ => 0))), (q2, .inl (G.2.2 1, 32, .inl (fun _ => 0)))]) H locs := h
  refine r_put C h 0 rfl (Cn := RX2) (T := TX2) (N := 5) rfl hinX2 tyX2 tyX2_ok nmX2 1 (by decide) (index := 15) (ref := "ScaleHouse$Ledger") wd5 rfl rfl (v := .ref q2) rfl rfl (show 1 < 5 by decide) dX2_init_17 (fun H locs h => ?_)
  have h : gS G A s ([(h0, .inr (2, [.ref q1, .ref q2, .null, .int 0, .int 0])), (q1, .inl (G.2.2 1, 32, .inl (fun _ => 0))), (q2, .inl (G.2.2 1, 32, .inl (fun _ => 0)))]) H locs := h
  refine lv_aload_n hx hb dX2_init_20 rfl (lv_at hl 0 rfl) ?_
  refine lv_bipush (v := 32) hx hb dX2_init_21 (by decide) ?_
  refine r_newa C h (ty := .int) rfl 1 (cA := G.2.2 1) rfl (fun z => z) wd3 (n := 32) (N' := 32) (a0 := (32, .inl (fun _ => 0))) (fun _ => rfl) (by decide) (rfl) (by decide) (Nat.le_of_ble_eq_true rfl) (Nat.le_of_ble_eq_true rfl) dX2_init_23 (fun q3 H h => ?_)
  refine W.widen (k := 3) (n := 96) (Nat.le_of_ble_eq_true rfl) (Nat.le_of_ble_eq_true rfl) ?_
  have h : gS G A s ([(h0, .inr (2, [.ref q1, .ref q2, .null, .int 0, .int 0])), (q1, .inl (G.2.2 1, 32, .inl (fun _ => 0))), (q2, .inl (G.2.2 1, 32, .inl (fun _ => 0))), (q3, .inl (G.2.2 1, 32, .inl (fun _ => 0)))]) H locs := h
  refine r_put C h 0 rfl (Cn := RX2) (T := TX2) (N := 5) rfl hinX2 tyX2 tyX2_ok nmX2 2 (by decide) (index := 18) (ref := "ScaleHouse$Ledger") wd6 rfl rfl (v := .ref q3) rfl rfl (show 2 < 5 by decide) dX2_init_25 (fun H locs h => ?_)
  have h : gS G A s ([(h0, .inr (2, [.ref q1, .ref q2, .ref q3, .int 0, .int 0])), (q1, .inl (G.2.2 1, 32, .inl (fun _ => 0))), (q2, .inl (G.2.2 1, 32, .inl (fun _ => 0))), (q3, .inl (G.2.2 1, 32, .inl (fun _ => 0)))]) H locs := h
  refine lv_aload_n hx hb dX2_init_28 rfl (lv_at hl 0 rfl) ?_
  refine lv_iconst (v := 0) hx hb dX2_init_29 (by decide) ?_
  refine r_put C h 0 rfl (Cn := RX2) (T := TX2) (N := 5) rfl hinX2 tyX2 tyX2_ok nmX2 3 (by decide) (index := 21) (ref := "ScaleHouse$Ledger") wd7 rfl rfl (v := .int 0) rfl rfl (show 3 < 5 by decide) dX2_init_30 (fun H locs h => ?_)
  have h : gS G A s ([(h0, .inr (2, [.ref q1, .ref q2, .ref q3, .int 0, .int 0])), (q1, .inl (G.2.2 1, 32, .inl (fun _ => 0))), (q2, .inl (G.2.2 1, 32, .inl (fun _ => 0))), (q3, .inl (G.2.2 1, 32, .inl (fun _ => 0)))]) H locs := h
  refine lv_aload_n hx hb dX2_init_33 rfl (lv_at hl 0 rfl) ?_
  refine lv_iconst (v := 0) hx hb dX2_init_34 (by decide) ?_
  refine r_put C h 0 rfl (Cn := RX2) (T := TX2) (N := 5) rfl hinX2 tyX2 tyX2_ok nmX2 4 (by decide) (index := 25) (ref := "ScaleHouse$Ledger") wd8 rfl rfl (v := .int 0) rfl rfl (show 4 < 5 by decide) dX2_init_35 (fun H locs h => ?_)
  have h : gS G A s ([(h0, .inr (2, [.ref q1, .ref q2, .ref q3, .int 0, .int 0])), (q1, .inl (G.2.2 1, 32, .inl (fun _ => 0))), (q2, .inl (G.2.2 1, 32, .inl (fun _ => 0))), (q3, .inl (G.2.2 1, 32, .inl (fun _ => 0)))]) H locs := h
  exact r_vret C h hr hlk (Nat.le_refl _) (Nat.le_refl _) (q1, q2, q3) (trivial) (rfl) dX2_init_38

set_option maxHeartbeats 4000000 in
set_option maxRecDepth 100000 in
theorem d_grow (l : Launch) (G : gG) (h0 h1 h2 h3 n : Nat) (tot : Int32) (a b d : Nat → Int32) (hn : 0 < n) (hn2 : n ≤ 16384) : cM l yX2_grow wsX2_grow 2 120 (3) (min 20000 (2 * n) + min 20000 (2 * n) + min 20000 (2 * n)) G [.ref h0] ([(h0, .inr (2, [.ref h1, .ref h2, .ref h3, .int (nI n), .int tot])), (h1, .inl (G.2.2 1, n, .inl a)), (h2, .inl (G.2.2 1, n, .inl b)), (h3, .inl (G.2.2 1, n, .inl d))]) (qV G (S := Nat × Nat × Nat × (Nat → Int32) × (Nat → Int32) × (Nat → Int32)) (fun u => (∀ j, j < n → u.2.2.2.1 j = a j) ∧ (∀ j, j < n → u.2.2.2.2.1 j = b j) ∧ (∀ j, j < n → u.2.2.2.2.2 j = d j)) (fun u => [(h0, .inr (2, [.ref u.1, .ref u.2.1, .ref u.2.2.1, .int (nI n), .int tot])), (u.1, .inl (G.2.2 1, (min 20000 (2 * n)), .inl u.2.2.2.1)), (u.2.1, .inl (G.2.2 1, (min 20000 (2 * n)), .inl u.2.2.2.2.1)), (u.2.2.1, .inl (G.2.2 1, (min 20000 (2 * n)), .inl u.2.2.2.2.2))])) := by
  refine o_M (cc := cX2_grow) (maxL := 2) (ret := none) (own := RX2) (by decide +kernel) rfl rfl (Nat.le_of_ble_eq_true rfl) ?_
  intro p e s m below meth c A ls H locs hA C h hr hlk hnm hl
  have hx := C.1.1.1
  have hb := C.1.1.2.1
  have hl : lv_has ls 2 [(0, .ref h0)] := hl
  have wd0 : Cond.fieldLink RX2 9 "ScaleHouse$Ledger" "days" "[I" ∈ wsX2_grow := by decide +kernel
  have hinX2 : ∀ w ∈ wsX20, w ∈ wsX2_grow := by decide +kernel
  have wd1 : Cond.methodLink RX2 31 Lib.Math.min.name ∈ wsX2_grow := by decide +kernel
  have wd2 : Cond.static Lib.Math.min.name ∈ wsX2_grow := by decide +kernel
  have wd3 : Cond.initialized "java/lang/Math" ∈ wsX2_grow := by decide +kernel
  have wd4 : Cond.code Lib.Math.min.name Lib.Math.min.code 2 (some .int) ∈ wsX2_grow := by decide +kernel
  have wd5 : Cond.fieldLink RX2 15 "ScaleHouse$Ledger" "logs" "[I" ∈ wsX2_grow := by decide +kernel
  have wd6 : Cond.fieldLink RX2 18 "ScaleHouse$Ledger" "coins" "[I" ∈ wsX2_grow := by decide +kernel
  refine lv_sipush (v := 20000) hx hb dX2_grow_0 (by decide) ?_
  refine lv_aload_n hx hb dX2_grow_3 rfl (lv_at hl 0 rfl) ?_
  refine r_get C h 0 rfl (Cn := RX2) (T := TX2) (N := 5) rfl hinX2 0 (by decide) (index := 9) (ref := "ScaleHouse$Ledger") wd0 rfl (v := .ref h1) rfl dX2_grow_4 ?_
  refine r_alen C h 1 1 rfl rfl dX2_grow_7 ?_
  refine lv_iconst (v := 2) hx hb dX2_grow_8 (by decide) ?_
  refine lv_imul hx hb dX2_grow_9 ?_
  refine va_mmin hx hb (C.1.1.2.2.1.trans hl.1.symm) C.1.1.2.2.2.1 (C.1.1.2.2.2.2 _ wd1) (C.1.1.2.2.2.2 _ wd2) (C.1.1.2.2.2.2 _ wd3) (C.1.1.2.2.2.2 _ wd4) (Nat.le_of_ble_eq_true rfl) (Nat.le_of_ble_eq_true rfl) (by show _ ≤ 3; omega) (by show _ ≤ min 20000 (2 * n) + min 20000 (2 * n) + min 20000 (2 * n); omega) dX2_grow_10 ?_
  refine lv_cgi (y := (nI (min 20000 (2 * n)))) (by have z := nn_min (a := 20000) (b := n * 2) (by decide) (by omega); rw [← pk_mul] at z; rw [Nat.mul_comm 2 n]; exact z) ?_
  refine lv_istore_n (lv' := [(1, .int (nI (min 20000 (2 * n)))), (0, .ref h0)]) hx hb dX2_grow_13 rfl hl (by decide) rfl (fun ls hl => ?_)
  refine lv_aload_n hx hb dX2_grow_14 rfl (lv_at hl 1 rfl) ?_
  refine lv_aload_n hx hb dX2_grow_15 rfl (lv_at hl 1 rfl) ?_
  refine r_get C h 0 rfl (Cn := RX2) (T := TX2) (N := 5) rfl hinX2 0 (by decide) (index := 9) (ref := "ScaleHouse$Ledger") wd0 rfl (v := .ref h1) rfl dX2_grow_16 ?_
  refine lv_iload_n hx hb dX2_grow_19 rfl (lv_at hl 0 rfl) ?_
  have hp : List.Perm ([(h0, .inr (2, [.ref h1, .ref h2, .ref h3, .int (nI n), .int tot])), (h1, .inl (G.2.2 1, n, .inl a)), (h2, .inl (G.2.2 1, n, .inl b)), (h3, .inl (G.2.2 1, n, .inl d))] : va_W) ([(h1, .inl (G.2.2 1, n, .inl a))] ++ [(h0, .inr (2, [.ref h1, .ref h2, .ref h3, .int (nI n), .int tot])), (h2, .inl (G.2.2 1, n, .inl b)), (h3, .inl (G.2.2 1, n, .inl d))]) := pm 4 rfl [1, 0, 2, 3] (by decide +kernel) rfl
  refine k_r C h hp (r_runS C h hp (As := [.ref h1, .int (nI (min 20000 (2 * n)))]) (rest := [.ref h0]) (j_copyOf l G h1 n (min 20000 (2 * n)) a (by omega) (by omega)) (va_cwS 2 C.1.1.2.2.2.2 gX2_grow_J7_copyOf_59c91 rfl rfl rfl (by decide +kernel) ⟨Nat.le_of_ble_eq_true rfl, Nat.le_of_ble_eq_true rfl⟩) rfl hl.1 (Nat.le_of_ble_eq_true rfl) dX2_grow_20 ⟨by show _ ≤ 3; omega, by show _ ≤ min 20000 (2 * n) + min 20000 (2 * n) + min 20000 (2 * n); omega⟩) (fun a1 q20 H locs ha1 h => ?_)
  have h : gS G A s ([(h1, .inl (G.2.2 1, n, .inl a)), (q20, .inl (G.2.2 1, (min 20000 (2 * n)), .inl a1))] ++ [(h0, .inr (2, [.ref h1, .ref h2, .ref h3, .int (nI n), .int tot])), (h2, .inl (G.2.2 1, n, .inl b)), (h3, .inl (G.2.2 1, n, .inl d))]) H locs := h
  have h := gS.perm h (pm 5 rfl [2, 0, 3, 4, 1] (by decide +kernel) rfl : List.Perm ([(h1, .inl (G.2.2 1, n, .inl a)), (q20, .inl (G.2.2 1, (min 20000 (2 * n)), .inl a1))] ++ [(h0, .inr (2, [.ref h1, .ref h2, .ref h3, .int (nI n), .int tot])), (h2, .inl (G.2.2 1, n, .inl b)), (h3, .inl (G.2.2 1, n, .inl d))] : va_W) ([(h0, .inr (2, [.ref h1, .ref h2, .ref h3, .int (nI n), .int tot])), (h1, .inl (G.2.2 1, n, .inl a)), (h2, .inl (G.2.2 1, n, .inl b)), (h3, .inl (G.2.2 1, n, .inl d)), (q20, .inl (G.2.2 1, (min 20000 (2 * n)), .inl a1))]))
  have h : gS G A s ([(h0, .inr (2, [.ref h1, .ref h2, .ref h3, .int (nI n), .int tot])), (h1, .inl (G.2.2 1, n, .inl a)), (h2, .inl (G.2.2 1, n, .inl b)), (h3, .inl (G.2.2 1, n, .inl d)), (q20, .inl (G.2.2 1, (min 20000 (2 * n)), .inl a1))]) H locs := h
  refine r_put C h 0 rfl (Cn := RX2) (T := TX2) (N := 5) rfl hinX2 tyX2 tyX2_ok nmX2 0 (by decide) (index := 9) (ref := "ScaleHouse$Ledger") wd0 rfl rfl (v := .ref q20) rfl rfl (show 0 < 5 by decide) dX2_grow_23 (fun H locs h => ?_)
  have h : gS G A s ([(h0, .inr (2, [.ref q20, .ref h2, .ref h3, .int (nI n), .int tot])), (h1, .inl (G.2.2 1, n, .inl a)), (h2, .inl (G.2.2 1, n, .inl b)), (h3, .inl (G.2.2 1, n, .inl d)), (q20, .inl (G.2.2 1, (min 20000 (2 * n)), .inl a1))]) H locs := h
  refine lv_aload_n hx hb dX2_grow_26 rfl (lv_at hl 1 rfl) ?_
  refine lv_aload_n hx hb dX2_grow_27 rfl (lv_at hl 1 rfl) ?_
  refine r_get C h 0 rfl (Cn := RX2) (T := TX2) (N := 5) rfl hinX2 1 (by decide) (index := 15) (ref := "ScaleHouse$Ledger") wd5 rfl (v := .ref h2) rfl dX2_grow_28 ?_
  refine lv_iload_n hx hb dX2_grow_31 rfl (lv_at hl 0 rfl) ?_
  have hp : List.Perm ([(h0, .inr (2, [.ref q20, .ref h2, .ref h3, .int (nI n), .int tot])), (h1, .inl (G.2.2 1, n, .inl a)), (h2, .inl (G.2.2 1, n, .inl b)), (h3, .inl (G.2.2 1, n, .inl d)), (q20, .inl (G.2.2 1, (min 20000 (2 * n)), .inl a1))] : va_W) ([(h2, .inl (G.2.2 1, n, .inl b))] ++ [(h0, .inr (2, [.ref q20, .ref h2, .ref h3, .int (nI n), .int tot])), (h1, .inl (G.2.2 1, n, .inl a)), (h3, .inl (G.2.2 1, n, .inl d)), (q20, .inl (G.2.2 1, (min 20000 (2 * n)), .inl a1))]) := pm 5 rfl [2, 0, 1, 3, 4] (by decide +kernel) rfl
  refine k_r C h hp (r_runS C h hp (As := [.ref h2, .int (nI (min 20000 (2 * n)))]) (rest := [.ref h0]) (j_copyOf l G h2 n (min 20000 (2 * n)) b (by omega) (by omega)) (va_cwS 2 C.1.1.2.2.2.2 gX2_grow_J7_copyOf_59c91 rfl rfl rfl (by decide +kernel) ⟨Nat.le_of_ble_eq_true rfl, Nat.le_of_ble_eq_true rfl⟩) rfl hl.1 (Nat.le_of_ble_eq_true rfl) dX2_grow_32 ⟨by show _ ≤ 3; omega, by show _ ≤ min 20000 (2 * n) + min 20000 (2 * n) + min 20000 (2 * n); omega⟩) (fun b1 q32 H locs hb1 h => ?_)
  have h : gS G A s ([(h2, .inl (G.2.2 1, n, .inl b)), (q32, .inl (G.2.2 1, (min 20000 (2 * n)), .inl b1))] ++ [(h0, .inr (2, [.ref q20, .ref h2, .ref h3, .int (nI n), .int tot])), (h1, .inl (G.2.2 1, n, .inl a)), (h3, .inl (G.2.2 1, n, .inl d)), (q20, .inl (G.2.2 1, (min 20000 (2 * n)), .inl a1))]) H locs := h
  have h := gS.perm h (pm 6 rfl [2, 3, 0, 4, 5, 1] (by decide +kernel) rfl : List.Perm ([(h2, .inl (G.2.2 1, n, .inl b)), (q32, .inl (G.2.2 1, (min 20000 (2 * n)), .inl b1))] ++ [(h0, .inr (2, [.ref q20, .ref h2, .ref h3, .int (nI n), .int tot])), (h1, .inl (G.2.2 1, n, .inl a)), (h3, .inl (G.2.2 1, n, .inl d)), (q20, .inl (G.2.2 1, (min 20000 (2 * n)), .inl a1))] : va_W) ([(h0, .inr (2, [.ref q20, .ref h2, .ref h3, .int (nI n), .int tot])), (h1, .inl (G.2.2 1, n, .inl a)), (h2, .inl (G.2.2 1, n, .inl b)), (h3, .inl (G.2.2 1, n, .inl d)), (q20, .inl (G.2.2 1, (min 20000 (2 * n)), .inl a1)), (q32, .inl (G.2.2 1, (min 20000 (2 * n)), .inl b1))]))
  have h : gS G A s ([(h0, .inr (2, [.ref q20, .ref h2, .ref h3, .int (nI n), .int tot])), (h1, .inl (G.2.2 1, n, .inl a)), (h2, .inl (G.2.2 1, n, .inl b)), (h3, .inl (G.2.2 1, n, .inl d)), (q20, .inl (G.2.2 1, (min 20000 (2 * n)), .inl a1)), (q32, .inl (G.2.2 1, (min 20000 (2 * n)), .inl b1))]) H locs := h
  refine r_put C h 0 rfl (Cn := RX2) (T := TX2) (N := 5) rfl hinX2 tyX2 tyX2_ok nmX2 1 (by decide) (index := 15) (ref := "ScaleHouse$Ledger") wd5 rfl rfl (v := .ref q32) rfl rfl (show 1 < 5 by decide) dX2_grow_35 (fun H locs h => ?_)
  have h : gS G A s ([(h0, .inr (2, [.ref q20, .ref q32, .ref h3, .int (nI n), .int tot])), (h1, .inl (G.2.2 1, n, .inl a)), (h2, .inl (G.2.2 1, n, .inl b)), (h3, .inl (G.2.2 1, n, .inl d)), (q20, .inl (G.2.2 1, (min 20000 (2 * n)), .inl a1)), (q32, .inl (G.2.2 1, (min 20000 (2 * n)), .inl b1))]) H locs := h
  refine lv_aload_n hx hb dX2_grow_38 rfl (lv_at hl 1 rfl) ?_
  refine lv_aload_n hx hb dX2_grow_39 rfl (lv_at hl 1 rfl) ?_
  refine r_get C h 0 rfl (Cn := RX2) (T := TX2) (N := 5) rfl hinX2 2 (by decide) (index := 18) (ref := "ScaleHouse$Ledger") wd6 rfl (v := .ref h3) rfl dX2_grow_40 ?_
  refine lv_iload_n hx hb dX2_grow_43 rfl (lv_at hl 0 rfl) ?_
  have hp : List.Perm ([(h0, .inr (2, [.ref q20, .ref q32, .ref h3, .int (nI n), .int tot])), (h1, .inl (G.2.2 1, n, .inl a)), (h2, .inl (G.2.2 1, n, .inl b)), (h3, .inl (G.2.2 1, n, .inl d)), (q20, .inl (G.2.2 1, (min 20000 (2 * n)), .inl a1)), (q32, .inl (G.2.2 1, (min 20000 (2 * n)), .inl b1))] : va_W) ([(h3, .inl (G.2.2 1, n, .inl d))] ++ [(h0, .inr (2, [.ref q20, .ref q32, .ref h3, .int (nI n), .int tot])), (h1, .inl (G.2.2 1, n, .inl a)), (h2, .inl (G.2.2 1, n, .inl b)), (q20, .inl (G.2.2 1, (min 20000 (2 * n)), .inl a1)), (q32, .inl (G.2.2 1, (min 20000 (2 * n)), .inl b1))]) := pm 6 rfl [3, 0, 1, 2, 4, 5] (by decide +kernel) rfl
  refine k_r C h hp (r_runS C h hp (As := [.ref h3, .int (nI (min 20000 (2 * n)))]) (rest := [.ref h0]) (j_copyOf l G h3 n (min 20000 (2 * n)) d (by omega) (by omega)) (va_cwS 2 C.1.1.2.2.2.2 gX2_grow_J7_copyOf_59c91 rfl rfl rfl (by decide +kernel) ⟨Nat.le_of_ble_eq_true rfl, Nat.le_of_ble_eq_true rfl⟩) rfl hl.1 (Nat.le_of_ble_eq_true rfl) dX2_grow_44 ⟨by show _ ≤ 3; omega, by show _ ≤ min 20000 (2 * n) + min 20000 (2 * n) + min 20000 (2 * n); omega⟩) (fun d1 q44 H locs hd1 h => ?_)
  have h : gS G A s ([(h3, .inl (G.2.2 1, n, .inl d)), (q44, .inl (G.2.2 1, (min 20000 (2 * n)), .inl d1))] ++ [(h0, .inr (2, [.ref q20, .ref q32, .ref h3, .int (nI n), .int tot])), (h1, .inl (G.2.2 1, n, .inl a)), (h2, .inl (G.2.2 1, n, .inl b)), (q20, .inl (G.2.2 1, (min 20000 (2 * n)), .inl a1)), (q32, .inl (G.2.2 1, (min 20000 (2 * n)), .inl b1))]) H locs := h
  have h := gS.perm h (pm 7 rfl [2, 3, 4, 0, 5, 6, 1] (by decide +kernel) rfl : List.Perm ([(h3, .inl (G.2.2 1, n, .inl d)), (q44, .inl (G.2.2 1, (min 20000 (2 * n)), .inl d1))] ++ [(h0, .inr (2, [.ref q20, .ref q32, .ref h3, .int (nI n), .int tot])), (h1, .inl (G.2.2 1, n, .inl a)), (h2, .inl (G.2.2 1, n, .inl b)), (q20, .inl (G.2.2 1, (min 20000 (2 * n)), .inl a1)), (q32, .inl (G.2.2 1, (min 20000 (2 * n)), .inl b1))] : va_W) ([(h0, .inr (2, [.ref q20, .ref q32, .ref h3, .int (nI n), .int tot])), (h1, .inl (G.2.2 1, n, .inl a)), (h2, .inl (G.2.2 1, n, .inl b)), (h3, .inl (G.2.2 1, n, .inl d)), (q20, .inl (G.2.2 1, (min 20000 (2 * n)), .inl a1)), (q32, .inl (G.2.2 1, (min 20000 (2 * n)), .inl b1)), (q44, .inl (G.2.2 1, (min 20000 (2 * n)), .inl d1))]))
  have h : gS G A s ([(h0, .inr (2, [.ref q20, .ref q32, .ref h3, .int (nI n), .int tot])), (h1, .inl (G.2.2 1, n, .inl a)), (h2, .inl (G.2.2 1, n, .inl b)), (h3, .inl (G.2.2 1, n, .inl d)), (q20, .inl (G.2.2 1, (min 20000 (2 * n)), .inl a1)), (q32, .inl (G.2.2 1, (min 20000 (2 * n)), .inl b1)), (q44, .inl (G.2.2 1, (min 20000 (2 * n)), .inl d1))]) H locs := h
  refine r_put C h 0 rfl (Cn := RX2) (T := TX2) (N := 5) rfl hinX2 tyX2 tyX2_ok nmX2 2 (by decide) (index := 18) (ref := "ScaleHouse$Ledger") wd6 rfl rfl (v := .ref q44) rfl rfl (show 2 < 5 by decide) dX2_grow_47 (fun H locs h => ?_)
  have h : gS G A s ([(h0, .inr (2, [.ref q20, .ref q32, .ref q44, .int (nI n), .int tot])), (h1, .inl (G.2.2 1, n, .inl a)), (h2, .inl (G.2.2 1, n, .inl b)), (h3, .inl (G.2.2 1, n, .inl d)), (q20, .inl (G.2.2 1, (min 20000 (2 * n)), .inl a1)), (q32, .inl (G.2.2 1, (min 20000 (2 * n)), .inl b1)), (q44, .inl (G.2.2 1, (min 20000 (2 * n)), .inl d1))]) H locs := h
  have h := gS.keep (wc := [(h0, .inr (2, [.ref q20, .ref q32, .ref q44, .int (nI n), .int tot])), (q20, .inl (G.2.2 1, (min 20000 (2 * n)), .inl a1)), (q32, .inl (G.2.2 1, (min 20000 (2 * n)), .inl b1)), (q44, .inl (G.2.2 1, (min 20000 (2 * n)), .inl d1))]) (wr := [(h1, .inl (G.2.2 1, n, .inl a)), (h2, .inl (G.2.2 1, n, .inl b)), (h3, .inl (G.2.2 1, n, .inl d))]) h (pm 7 rfl [0, 4, 5, 6, 1, 2, 3] (by decide +kernel) rfl)
  exact r_vret C h hr hlk (by omega) (by omega) (q20, q32, q44, a1, b1, d1) (⟨fun j hj => ha1 j hj (by omega), fun j hj => hb1 j hj (by omega), fun j hj => hd1 j hj (by omega)⟩) (rfl) dX2_grow_50

theorem up_ag {n j : Nat} {f g : Nat → Int32} {x : Int32} (h : ∀ j, j < n → f j = g j) (hj : j ≤ n) : upd f n x j = upd g n x j := by
  unfold upd
  split
  · rfl
  · exact h j (by omega)

set_option maxHeartbeats 4000000 in
set_option maxRecDepth 100000 in
theorem d_write (l : Launch) (G : gG) (h0 h1 h2 h3 n : Nat) (tot : Int32) (a b d : Nat → Int32) (dy lg df : Int32) (hn : n < 20000) : cM l yX2_write wsX2_write 3 145 (ltC (n + 1) - ltC n) (ltS (n + 1) - ltS n) G [.ref h0, .int dy, .int lg, .int df] ([(h0, .inr (2, [.ref h1, .ref h2, .ref h3, .int (nI n), .int tot])), (h1, .inl (G.2.2 1, (lcap n), .inl a)), (h2, .inl (G.2.2 1, (lcap n), .inl b)), (h3, .inl (G.2.2 1, (lcap n), .inl d))]) (qV G (S := Nat × Nat × Nat × (Nat → Int32) × (Nat → Int32) × (Nat → Int32)) (fun u => (∀ j, j ≤ n → u.2.2.2.1 j = upd a n dy j) ∧ (∀ j, j ≤ n → u.2.2.2.2.1 j = upd b n lg j) ∧ (∀ j, j ≤ n → u.2.2.2.2.2 j = upd d n df j)) (fun u => [(h0, .inr (2, [.ref u.1, .ref u.2.1, .ref u.2.2.1, .int (nI (n + 1)), .int (tot + df)])), (u.1, .inl (G.2.2 1, (lcap (n + 1)), .inl u.2.2.2.1)), (u.2.1, .inl (G.2.2 1, (lcap (n + 1)), .inl u.2.2.2.2.1)), (u.2.2.1, .inl (G.2.2 1, (lcap (n + 1)), .inl u.2.2.2.2.2))])) := by
  refine o_M (cc := cX2_write) (maxL := 4) (ret := none) (own := RX2) (by decide +kernel) rfl rfl (Nat.le_of_ble_eq_true rfl) ?_
  intro p e s m below meth c A ls H locs hA C h hr hlk hnm hl
  have hx := C.1.1.1
  have hb := C.1.1.2.1
  have hl : lv_has ls 4 [(0, .ref h0), (1, .int dy), (2, .int lg), (3, .int df)] := hl
  have wd0 : Cond.fieldLink RX2 21 "ScaleHouse$Ledger" "size" "I" ∈ wsX2_write := by decide +kernel
  have hinX2 : ∀ w ∈ wsX20, w ∈ wsX2_write := by decide +kernel
  have wd1 : Cond.fieldLink RX2 9 "ScaleHouse$Ledger" "days" "[I" ∈ wsX2_write := by decide +kernel
  have wd2 : Cond.fieldLink RX2 15 "ScaleHouse$Ledger" "logs" "[I" ∈ wsX2_write := by decide +kernel
  have wd3 : Cond.fieldLink RX2 18 "ScaleHouse$Ledger" "coins" "[I" ∈ wsX2_write := by decide +kernel
  have wd4 : Cond.fieldLink RX2 25 "ScaleHouse$Ledger" "allCoins" "I" ∈ wsX2_write := by decide +kernel
  have hcap := lcap_ge (n := n) (by omega)
  refine lv_aload_n hx hb dX2_write_0 rfl (lv_at hl 0 rfl) ?_
  refine r_get C h 0 rfl (Cn := RX2) (T := TX2) (N := 5) rfl hinX2 3 (by decide) (index := 21) (ref := "ScaleHouse$Ledger") wd0 rfl (v := .int (nI n)) rfl dX2_write_1 ?_
  refine lv_aload_n hx hb dX2_write_4 rfl (lv_at hl 0 rfl) ?_
  refine r_get C h 0 rfl (Cn := RX2) (T := TX2) (N := 5) rfl hinX2 0 (by decide) (index := 9) (ref := "ScaleHouse$Ledger") wd1 rfl (v := .ref h1) rfl dX2_write_5 ?_
  refine r_alen C h 1 1 rfl rfl dX2_write_8 ?_
  refine lv_icmp_lt (tgt := 16) hx hb dX2_write_9 (by decide) (fun c_9 => ?_) (fun c_9 => ?_)
  · have hlt : n < lcap n := (nI_ltI (by omega) (by omega)).mp c_9
    obtain ⟨e1, e2, e3⟩ := lcap_lt hn hlt
    refine lv_aload_n hx hb dX2_write_16 rfl (lv_at hl 0 rfl) ?_
    refine r_get C h 0 rfl (Cn := RX2) (T := TX2) (N := 5) rfl hinX2 0 (by decide) (index := 9) (ref := "ScaleHouse$Ledger") wd1 rfl (v := .ref h1) rfl dX2_write_17 ?_
    refine lv_aload_n hx hb dX2_write_20 rfl (lv_at hl 0 rfl) ?_
    refine r_get C h 0 rfl (Cn := RX2) (T := TX2) (N := 5) rfl hinX2 3 (by decide) (index := 21) (ref := "ScaleHouse$Ledger") wd0 rfl (v := .int (nI n)) rfl dX2_write_21 ?_
    refine lv_iload_n hx hb dX2_write_24 rfl (lv_at hl 1 rfl) ?_
    refine r_iast C h 1 rfl (i := (nI n)) (vp_in_nI (by omega) (by omega)) dX2_write_25 (fun H locs h => ?_)
    have h : gS G A s ([(h0, .inr (2, [.ref h1, .ref h2, .ref h3, .int (nI n), .int tot])), (h1, .inl (G.2.2 1, (lcap n), .inl (upd a (nI n).toNatClampNeg dy))), (h2, .inl (G.2.2 1, (lcap n), .inl b)), (h3, .inl (G.2.2 1, (lcap n), .inl d))]) H locs := h
    rw [show (upd a (nI n).toNatClampNeg dy) = (upd a n dy) from nn_up a (by omega) _] at h
    have h : gS G A s ([(h0, .inr (2, [.ref h1, .ref h2, .ref h3, .int (nI n), .int tot])), (h1, .inl (G.2.2 1, (lcap n), .inl (upd a n dy))), (h2, .inl (G.2.2 1, (lcap n), .inl b)), (h3, .inl (G.2.2 1, (lcap n), .inl d))]) H locs := h
    refine lv_aload_n hx hb dX2_write_26 rfl (lv_at hl 0 rfl) ?_
    refine r_get C h 0 rfl (Cn := RX2) (T := TX2) (N := 5) rfl hinX2 1 (by decide) (index := 15) (ref := "ScaleHouse$Ledger") wd2 rfl (v := .ref h2) rfl dX2_write_27 ?_
    refine lv_aload_n hx hb dX2_write_30 rfl (lv_at hl 0 rfl) ?_
    refine r_get C h 0 rfl (Cn := RX2) (T := TX2) (N := 5) rfl hinX2 3 (by decide) (index := 21) (ref := "ScaleHouse$Ledger") wd0 rfl (v := .int (nI n)) rfl dX2_write_31 ?_
    refine lv_iload_n hx hb dX2_write_34 rfl (lv_at hl 2 rfl) ?_
    refine r_iast C h 2 rfl (i := (nI n)) (vp_in_nI (by omega) (by omega)) dX2_write_35 (fun H locs h => ?_)
    have h : gS G A s ([(h0, .inr (2, [.ref h1, .ref h2, .ref h3, .int (nI n), .int tot])), (h1, .inl (G.2.2 1, (lcap n), .inl (upd a n dy))), (h2, .inl (G.2.2 1, (lcap n), .inl (upd b (nI n).toNatClampNeg lg))), (h3, .inl (G.2.2 1, (lcap n), .inl d))]) H locs := h
    rw [show (upd b (nI n).toNatClampNeg lg) = (upd b n lg) from nn_up b (by omega) _] at h
    have h : gS G A s ([(h0, .inr (2, [.ref h1, .ref h2, .ref h3, .int (nI n), .int tot])), (h1, .inl (G.2.2 1, (lcap n), .inl (upd a n dy))), (h2, .inl (G.2.2 1, (lcap n), .inl (upd b n lg))), (h3, .inl (G.2.2 1, (lcap n), .inl d))]) H locs := h
    refine lv_aload_n hx hb dX2_write_36 rfl (lv_at hl 0 rfl) ?_
    refine r_get C h 0 rfl (Cn := RX2) (T := TX2) (N := 5) rfl hinX2 2 (by decide) (index := 18) (ref := "ScaleHouse$Ledger") wd3 rfl (v := .ref h3) rfl dX2_write_37 ?_
    refine lv_aload_n hx hb dX2_write_40 rfl (lv_at hl 0 rfl) ?_
    refine r_get C h 0 rfl (Cn := RX2) (T := TX2) (N := 5) rfl hinX2 3 (by decide) (index := 21) (ref := "ScaleHouse$Ledger") wd0 rfl (v := .int (nI n)) rfl dX2_write_41 ?_
    refine lv_iload_n hx hb dX2_write_44 rfl (lv_at hl 3 rfl) ?_
    refine r_iast C h 3 rfl (i := (nI n)) (vp_in_nI (by omega) (by omega)) dX2_write_45 (fun H locs h => ?_)
    have h : gS G A s ([(h0, .inr (2, [.ref h1, .ref h2, .ref h3, .int (nI n), .int tot])), (h1, .inl (G.2.2 1, (lcap n), .inl (upd a n dy))), (h2, .inl (G.2.2 1, (lcap n), .inl (upd b n lg))), (h3, .inl (G.2.2 1, (lcap n), .inl (upd d (nI n).toNatClampNeg df)))]) H locs := h
    rw [show (upd d (nI n).toNatClampNeg df) = (upd d n df) from nn_up d (by omega) _] at h
    have h : gS G A s ([(h0, .inr (2, [.ref h1, .ref h2, .ref h3, .int (nI n), .int tot])), (h1, .inl (G.2.2 1, (lcap n), .inl (upd a n dy))), (h2, .inl (G.2.2 1, (lcap n), .inl (upd b n lg))), (h3, .inl (G.2.2 1, (lcap n), .inl (upd d n df)))]) H locs := h
    refine lv_aload_n hx hb dX2_write_46 rfl (lv_at hl 0 rfl) ?_
    refine lv_dup hx hb dX2_write_47 rfl ?_
    refine r_get C h 0 rfl (Cn := RX2) (T := TX2) (N := 5) rfl hinX2 3 (by decide) (index := 21) (ref := "ScaleHouse$Ledger") wd0 rfl (v := .int (nI n)) rfl dX2_write_48 ?_
    refine lv_iconst (v := 1) hx hb dX2_write_51 (by decide) ?_
    refine lv_iadd hx hb dX2_write_52 ?_
    refine r_put C h 0 rfl (Cn := RX2) (T := TX2) (N := 5) rfl hinX2 tyX2 tyX2_ok nmX2 3 (by decide) (index := 21) (ref := "ScaleHouse$Ledger") wd0 rfl rfl (v := .int ((nI n) + 1)) rfl rfl (show 3 < 5 by decide) dX2_write_53 (fun H locs h => ?_)
    have h : gS G A s ([(h0, .inr (2, [.ref h1, .ref h2, .ref h3, .int ((nI n) + 1), .int tot])), (h1, .inl (G.2.2 1, (lcap n), .inl (upd a n dy))), (h2, .inl (G.2.2 1, (lcap n), .inl (upd b n lg))), (h3, .inl (G.2.2 1, (lcap n), .inl (upd d n df)))]) H locs := h
    refine lv_aload_n hx hb dX2_write_56 rfl (lv_at hl 0 rfl) ?_
    refine lv_dup hx hb dX2_write_57 rfl ?_
    refine r_get C h 0 rfl (Cn := RX2) (T := TX2) (N := 5) rfl hinX2 4 (by decide) (index := 25) (ref := "ScaleHouse$Ledger") wd4 rfl (v := .int tot) rfl dX2_write_58 ?_
    refine lv_iload_n hx hb dX2_write_61 rfl (lv_at hl 3 rfl) ?_
    refine lv_iadd hx hb dX2_write_62 ?_
    refine r_put C h 0 rfl (Cn := RX2) (T := TX2) (N := 5) rfl hinX2 tyX2 tyX2_ok nmX2 4 (by decide) (index := 25) (ref := "ScaleHouse$Ledger") wd4 rfl rfl (v := .int (tot + df)) rfl rfl (show 4 < 5 by decide) dX2_write_63 (fun H locs h => ?_)
    have h : gS G A s ([(h0, .inr (2, [.ref h1, .ref h2, .ref h3, .int ((nI n) + 1), .int (tot + df)])), (h1, .inl (G.2.2 1, (lcap n), .inl (upd a n dy))), (h2, .inl (G.2.2 1, (lcap n), .inl (upd b n lg))), (h3, .inl (G.2.2 1, (lcap n), .inl (upd d n df)))]) H locs := h
    exact r_vret C h hr hlk (by omega) (by omega) (h1, h2, h3, (upd a n dy), (upd b n lg), (upd d n df)) (⟨fun j _ => rfl, fun j _ => rfl, fun j _ => rfl⟩) (by rw [← nI_1, e1]) dX2_write_66
  · have hge : ¬ n < lcap n := fun z => c_9 (nI_lt z (by omega))
    obtain ⟨e0, e1, e2, e3, e4, e16⟩ := lcap_eq hn hge
    refine lv_aload_n hx hb dX2_write_12 rfl (lv_at hl 0 rfl) ?_
    rw [← e0] at h
    have h : gS G A s ([(h0, .inr (2, [.ref h1, .ref h2, .ref h3, .int (nI n), .int tot])), (h1, .inl (G.2.2 1, n, .inl a)), (h2, .inl (G.2.2 1, n, .inl b)), (h3, .inl (G.2.2 1, n, .inl d))]) H locs := h
    have hp : List.Perm ([(h0, .inr (2, [.ref h1, .ref h2, .ref h3, .int (nI n), .int tot])), (h1, .inl (G.2.2 1, n, .inl a)), (h2, .inl (G.2.2 1, n, .inl b)), (h3, .inl (G.2.2 1, n, .inl d))] : va_W) ([(h0, .inr (2, [.ref h1, .ref h2, .ref h3, .int (nI n), .int tot])), (h1, .inl (G.2.2 1, n, .inl a)), (h2, .inl (G.2.2 1, n, .inl b)), (h3, .inl (G.2.2 1, n, .inl d))] ++ []) := pm 4 rfl [0, 1, 2, 3] (by decide +kernel) rfl
    refine k_v C h hp (r_runV C h hp 0 rfl rfl (As := []) (rest := []) (d_grow l G h0 h1 h2 h3 n tot a b d (by omega) (by omega)) (cwV 0 C.1.1.2.2.2.2 gX2_write_X2_grow rfl rfl rfl (by decide +kernel) ⟨Nat.le_of_ble_eq_true rfl, Nat.le_of_ble_eq_true rfl⟩) rfl hl.1 (Nat.le_of_ble_eq_true rfl) dX2_write_13 ⟨by show _ ≤ ltC (n + 1) - ltC n; omega, by show _ ≤ ltS (n + 1) - ltS n; omega⟩) (fun u H locs hu h => ?_)
    have h : gS G A s ([(h0, .inr (2, [.ref u.1, .ref u.2.1, .ref u.2.2.1, .int (nI n), .int tot])), (u.1, .inl (G.2.2 1, (min 20000 (2 * n)), .inl u.2.2.2.1)), (u.2.1, .inl (G.2.2 1, (min 20000 (2 * n)), .inl u.2.2.2.2.1)), (u.2.2.1, .inl (G.2.2 1, (min 20000 (2 * n)), .inl u.2.2.2.2.2))]) H locs := h
    refine lv_aload_n hx hb dX2_write_16 rfl (lv_at hl 0 rfl) ?_
    refine r_get C h 0 rfl (Cn := RX2) (T := TX2) (N := 5) rfl hinX2 0 (by decide) (index := 9) (ref := "ScaleHouse$Ledger") wd1 rfl (v := .ref u.1) rfl dX2_write_17 ?_
    refine lv_aload_n hx hb dX2_write_20 rfl (lv_at hl 0 rfl) ?_
    refine r_get C h 0 rfl (Cn := RX2) (T := TX2) (N := 5) rfl hinX2 3 (by decide) (index := 21) (ref := "ScaleHouse$Ledger") wd0 rfl (v := .int (nI n)) rfl dX2_write_21 ?_
    refine lv_iload_n hx hb dX2_write_24 rfl (lv_at hl 1 rfl) ?_
    refine r_iast C h 1 rfl (i := (nI n)) (vp_in_nI (by omega) (by omega)) dX2_write_25 (fun H locs h => ?_)
    have h : gS G A s ([(h0, .inr (2, [.ref u.1, .ref u.2.1, .ref u.2.2.1, .int (nI n), .int tot])), (u.1, .inl (G.2.2 1, (min 20000 (2 * n)), .inl (upd u.2.2.2.1 (nI n).toNatClampNeg dy))), (u.2.1, .inl (G.2.2 1, (min 20000 (2 * n)), .inl u.2.2.2.2.1)), (u.2.2.1, .inl (G.2.2 1, (min 20000 (2 * n)), .inl u.2.2.2.2.2))]) H locs := h
    rw [show (upd u.2.2.2.1 (nI n).toNatClampNeg dy) = (upd u.2.2.2.1 n dy) from nn_up u.2.2.2.1 (by omega) _] at h
    have h : gS G A s ([(h0, .inr (2, [.ref u.1, .ref u.2.1, .ref u.2.2.1, .int (nI n), .int tot])), (u.1, .inl (G.2.2 1, (min 20000 (2 * n)), .inl (upd u.2.2.2.1 n dy))), (u.2.1, .inl (G.2.2 1, (min 20000 (2 * n)), .inl u.2.2.2.2.1)), (u.2.2.1, .inl (G.2.2 1, (min 20000 (2 * n)), .inl u.2.2.2.2.2))]) H locs := h
    refine lv_aload_n hx hb dX2_write_26 rfl (lv_at hl 0 rfl) ?_
    refine r_get C h 0 rfl (Cn := RX2) (T := TX2) (N := 5) rfl hinX2 1 (by decide) (index := 15) (ref := "ScaleHouse$Ledger") wd2 rfl (v := .ref u.2.1) rfl dX2_write_27 ?_
    refine lv_aload_n hx hb dX2_write_30 rfl (lv_at hl 0 rfl) ?_
    refine r_get C h 0 rfl (Cn := RX2) (T := TX2) (N := 5) rfl hinX2 3 (by decide) (index := 21) (ref := "ScaleHouse$Ledger") wd0 rfl (v := .int (nI n)) rfl dX2_write_31 ?_
    refine lv_iload_n hx hb dX2_write_34 rfl (lv_at hl 2 rfl) ?_
    refine r_iast C h 2 rfl (i := (nI n)) (vp_in_nI (by omega) (by omega)) dX2_write_35 (fun H locs h => ?_)
    have h : gS G A s ([(h0, .inr (2, [.ref u.1, .ref u.2.1, .ref u.2.2.1, .int (nI n), .int tot])), (u.1, .inl (G.2.2 1, (min 20000 (2 * n)), .inl (upd u.2.2.2.1 n dy))), (u.2.1, .inl (G.2.2 1, (min 20000 (2 * n)), .inl (upd u.2.2.2.2.1 (nI n).toNatClampNeg lg))), (u.2.2.1, .inl (G.2.2 1, (min 20000 (2 * n)), .inl u.2.2.2.2.2))]) H locs := h
    rw [show (upd u.2.2.2.2.1 (nI n).toNatClampNeg lg) = (upd u.2.2.2.2.1 n lg) from nn_up u.2.2.2.2.1 (by omega) _] at h
    have h : gS G A s ([(h0, .inr (2, [.ref u.1, .ref u.2.1, .ref u.2.2.1, .int (nI n), .int tot])), (u.1, .inl (G.2.2 1, (min 20000 (2 * n)), .inl (upd u.2.2.2.1 n dy))), (u.2.1, .inl (G.2.2 1, (min 20000 (2 * n)), .inl (upd u.2.2.2.2.1 n lg))), (u.2.2.1, .inl (G.2.2 1, (min 20000 (2 * n)), .inl u.2.2.2.2.2))]) H locs := h
    refine lv_aload_n hx hb dX2_write_36 rfl (lv_at hl 0 rfl) ?_
    refine r_get C h 0 rfl (Cn := RX2) (T := TX2) (N := 5) rfl hinX2 2 (by decide) (index := 18) (ref := "ScaleHouse$Ledger") wd3 rfl (v := .ref u.2.2.1) rfl dX2_write_37 ?_
    refine lv_aload_n hx hb dX2_write_40 rfl (lv_at hl 0 rfl) ?_
    refine r_get C h 0 rfl (Cn := RX2) (T := TX2) (N := 5) rfl hinX2 3 (by decide) (index := 21) (ref := "ScaleHouse$Ledger") wd0 rfl (v := .int (nI n)) rfl dX2_write_41 ?_
    refine lv_iload_n hx hb dX2_write_44 rfl (lv_at hl 3 rfl) ?_
    refine r_iast C h 3 rfl (i := (nI n)) (vp_in_nI (by omega) (by omega)) dX2_write_45 (fun H locs h => ?_)
    have h : gS G A s ([(h0, .inr (2, [.ref u.1, .ref u.2.1, .ref u.2.2.1, .int (nI n), .int tot])), (u.1, .inl (G.2.2 1, (min 20000 (2 * n)), .inl (upd u.2.2.2.1 n dy))), (u.2.1, .inl (G.2.2 1, (min 20000 (2 * n)), .inl (upd u.2.2.2.2.1 n lg))), (u.2.2.1, .inl (G.2.2 1, (min 20000 (2 * n)), .inl (upd u.2.2.2.2.2 (nI n).toNatClampNeg df)))]) H locs := h
    rw [show (upd u.2.2.2.2.2 (nI n).toNatClampNeg df) = (upd u.2.2.2.2.2 n df) from nn_up u.2.2.2.2.2 (by omega) _] at h
    have h : gS G A s ([(h0, .inr (2, [.ref u.1, .ref u.2.1, .ref u.2.2.1, .int (nI n), .int tot])), (u.1, .inl (G.2.2 1, (min 20000 (2 * n)), .inl (upd u.2.2.2.1 n dy))), (u.2.1, .inl (G.2.2 1, (min 20000 (2 * n)), .inl (upd u.2.2.2.2.1 n lg))), (u.2.2.1, .inl (G.2.2 1, (min 20000 (2 * n)), .inl (upd u.2.2.2.2.2 n df)))]) H locs := h
    refine lv_aload_n hx hb dX2_write_46 rfl (lv_at hl 0 rfl) ?_
    refine lv_dup hx hb dX2_write_47 rfl ?_
    refine r_get C h 0 rfl (Cn := RX2) (T := TX2) (N := 5) rfl hinX2 3 (by decide) (index := 21) (ref := "ScaleHouse$Ledger") wd0 rfl (v := .int (nI n)) rfl dX2_write_48 ?_
    refine lv_iconst (v := 1) hx hb dX2_write_51 (by decide) ?_
    refine lv_iadd hx hb dX2_write_52 ?_
    refine r_put C h 0 rfl (Cn := RX2) (T := TX2) (N := 5) rfl hinX2 tyX2 tyX2_ok nmX2 3 (by decide) (index := 21) (ref := "ScaleHouse$Ledger") wd0 rfl rfl (v := .int ((nI n) + 1)) rfl rfl (show 3 < 5 by decide) dX2_write_53 (fun H locs h => ?_)
    have h : gS G A s ([(h0, .inr (2, [.ref u.1, .ref u.2.1, .ref u.2.2.1, .int ((nI n) + 1), .int tot])), (u.1, .inl (G.2.2 1, (min 20000 (2 * n)), .inl (upd u.2.2.2.1 n dy))), (u.2.1, .inl (G.2.2 1, (min 20000 (2 * n)), .inl (upd u.2.2.2.2.1 n lg))), (u.2.2.1, .inl (G.2.2 1, (min 20000 (2 * n)), .inl (upd u.2.2.2.2.2 n df)))]) H locs := h
    refine lv_aload_n hx hb dX2_write_56 rfl (lv_at hl 0 rfl) ?_
    refine lv_dup hx hb dX2_write_57 rfl ?_
    refine r_get C h 0 rfl (Cn := RX2) (T := TX2) (N := 5) rfl hinX2 4 (by decide) (index := 25) (ref := "ScaleHouse$Ledger") wd4 rfl (v := .int tot) rfl dX2_write_58 ?_
    refine lv_iload_n hx hb dX2_write_61 rfl (lv_at hl 3 rfl) ?_
    refine lv_iadd hx hb dX2_write_62 ?_
    refine r_put C h 0 rfl (Cn := RX2) (T := TX2) (N := 5) rfl hinX2 tyX2 tyX2_ok nmX2 4 (by decide) (index := 25) (ref := "ScaleHouse$Ledger") wd4 rfl rfl (v := .int (tot + df)) rfl rfl (show 4 < 5 by decide) dX2_write_63 (fun H locs h => ?_)
    have h : gS G A s ([(h0, .inr (2, [.ref u.1, .ref u.2.1, .ref u.2.2.1, .int ((nI n) + 1), .int (tot + df)])), (u.1, .inl (G.2.2 1, (min 20000 (2 * n)), .inl (upd u.2.2.2.1 n dy))), (u.2.1, .inl (G.2.2 1, (min 20000 (2 * n)), .inl (upd u.2.2.2.2.1 n lg))), (u.2.2.1, .inl (G.2.2 1, (min 20000 (2 * n)), .inl (upd u.2.2.2.2.2 n df)))]) H locs := h
    exact r_vret C h hr hlk (by omega) (by omega) (u.1, u.2.1, u.2.2.1, (upd u.2.2.2.1 n dy), (upd u.2.2.2.2.1 n lg), (upd u.2.2.2.2.2 n df)) (⟨fun j hj => up_ag hu.1 hj, fun j hj => up_ag hu.2.1 hj, fun j hj => up_ag hu.2.2 hj⟩) (by rw [← nI_1, e1]) dX2_write_66
