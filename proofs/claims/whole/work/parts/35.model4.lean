/-! ===== the reference: texts read through, laws told and worked out ===== -/
abbrev pG (G : gG) (ad : Nat → Nat) (I : Nat → Int32) (F : Nat → Nat → Int32) (rw : Nat) (gd : Int64) (gl : Int64) (x : Nat) (N : Nat) (t : Nat → Int32) : va_W := [((ad 0), .inr (10, [.int (I 0), .ref (ad 1), .ref (ad 2), .ref (ad 3), .ref (ad 4), .ref (ad 5), .ref (ad 6), .ref (ad 7), .ref (ad 8), .ref (ad 9), .ref (ad 10), .ref (ad 11), .ref (ad 12), .ref (ad 13), .ref (ad 14), .ref (ad 15), .ref (ad 16), .ref (ad 17), .ref (ad 18), .ref (ad 19), .ref (ad 20), .ref (ad 21), .ref (ad 22), .int (I 23), .int (I 24), .int (I 25), .int (I 26), .int (I 27), .int (I 28), .int (I 29), .ref rw, .int (I 31), .int (I 32), .int (I 33), .int (I 34), .int (I 35), .long gd, .long gl, .ref (ad 38), .ref (ad 39), .ref (ad 40), .ref (ad 41), .ref (ad 42), .ref (ad 43), .int (I 44), .int (I 45), .int (I 46), .int (I 47), .int (I 48), .int (I 49)])), (x, .inl (G.2.2 0, N, .inl t))]
def pGo (t : Nat → Int32) (a n : Nat) (gd gl : Int64) : Nat ⊕ Int64 :=
  match pS t a n gd gl (8 + 1) 0 with
  | .inl q => .inl q
  | .inr z => if lkV t a n (lk t a n z.2) = -1 then .inr z.1 else .inl (lk t a n z.2)
def pR (Z : Nat ⊕ Int64) (r : Int64) (u : Int32 × Int32 × Int32) : Prop :=
  match Z with
  | .inl q => u.2.1 = nI q
  | .inr v => r = v ∧ u.2.1 = -1
def mFau (t : Nat → Int32) (n : Nat) : Int32 := match pGo t 0 n (1 : Int32).toInt64 (1 : Int32).toInt64 with | .inl q => nI q | .inr _ => -1
theorem pR_fau {t : Nat → Int32} {n : Nat} {r : Int64} {u : Int32 × Int32 × Int32} (h : pR (pGo t 0 n (1 : Int32).toInt64 (1 : Int32).toInt64) r u) : u.2.1 = mFau t n := by
  unfold mFau
  revert h
  rcases pGo t 0 n (1 : Int32).toInt64 (1 : Int32).toInt64 with q | v
  · exact fun h => h
  · exact fun h => h.2
def pRv (Z : Nat ⊕ Int64) : Int64 := match Z with | .inl _ => 0 | .inr v => v
theorem pR_v {Z : Nat ⊕ Int64} {r : Int64} {u : Int32 × Int32 × Int32} (h : pR Z r u) (hz : ∃ v, Z = .inr v) : r = pRv Z := by
  obtain ⟨v, rfl⟩ := hz
  exact h.1
/-- the parser's own numbers aside -/
def jk (I J : Nat → Int32) : Prop := ∀ k, ¬ (31 ≤ k ∧ k ≤ 35) → J k = I k
theorem jk_rf (I : Nat → Int32) : jk I I := fun _ _ => rfl
theorem jk_tr {I J K : Nat → Int32} (h : jk I J) (h2 : jk J K) : jk I K := fun k hk => (h2 k hk).trans (h k hk)
theorem jk_up {I J : Nat → Int32} {k : Nat} {v : Int32} (h : jk I J) (hk : 31 ≤ k ∧ k ≤ 35) : jk I (upd J k v) := by
  intro i hi
  unfold upd
  rw [if_neg (fun e => hi (by rw [e]; exact hk))]
  exact h i hi
theorem jk_cg {I J : Nat → Int32} {k : Nat} {v : Int32} (h : jk I J) : jk (upd I k v) (upd J k v) := by
  intro i hi
  unfold upd
  by_cases e : i = k
  · rw [if_pos e, if_pos e]
  · rw [if_neg e, if_neg e]
    exact h i hi

set_option maxHeartbeats 4000000 in
set_option maxRecDepth 100000 in
theorem m_goThrough (l : Launch) (G : gG) (ad : Nat → Nat) (I : Nat → Int32) (F : Nat → Nat → Int32) (rw : Nat) (gd gl : Int64) (x N : Nat) (t : Nat → Int32) (a n : Nat) (hN2 : N ≤ 2400) (hN : a + n ≤ N) (d lq : Int32) : cM l yX10_goThrough wsX10_goThrough 87 900 (0) (0) G [.ref (ad 0), .ref x, .int (nI a), .int (nI n), .int d, .int lq] (pG G ad I F rw gd gl x N t) (qL G (S := Int32 × Int32 × Int32) (fun r u => pR (pGo t a n d.toInt64 lq.toInt64) r u) (fun u => pG G ad (upd (upd (upd (upd (upd I 31 (nI a)) 32 (nI n)) 33 u.1) 35 u.2.2) 34 u.2.1) F x d.toInt64 lq.toInt64 x N t)) := by
  refine o_M (cc := cX10_goThrough) (maxL := 8) (ret := (some .long)) (own := RX10) (by decide +kernel) rfl rfl (Nat.le_of_ble_eq_true rfl) ?_
  intro p e s m below meth c A ls H locs hA C h hr hlk hnm hl
  have hx := C.1.1.1
  have hb := C.1.1.2.1
  have hl : lv_has ls 8 [(0, .ref (ad 0)), (1, .ref x), (2, .int (nI a)), (3, .int (nI n)), (4, .int d), (5, .int lq)] := hl
  have wd0 : Cond.fieldLink RX10 77 "ScaleHouseModel" "row" "[B" ∈ wsX10_goThrough := by decide +kernel
  have hinX10 : ∀ w ∈ wsX100, w ∈ wsX10_goThrough := fun _ h => List.mem_cons_of_mem _ (List.mem_append_right _ h)
  have wd1 : Cond.fieldLink RX10 126 "ScaleHouseModel" "rowFrom" "I" ∈ wsX10_goThrough := by decide +kernel
  have wd2 : Cond.fieldLink RX10 123 "ScaleHouseModel" "rowLong" "I" ∈ wsX10_goThrough := by decide +kernel
  have wd3 : Cond.fieldLink RX10 120 "ScaleHouseModel" "at" "I" ∈ wsX10_goThrough := by decide +kernel
  have wd4 : Cond.fieldLink RX10 156 "ScaleHouseModel" "open" "I" ∈ wsX10_goThrough := by decide +kernel
  have wd5 : Cond.fieldLink RX10 129 "ScaleHouseModel" "fault" "I" ∈ wsX10_goThrough := by decide +kernel
  have wd6 : Cond.fieldLink RX10 149 "ScaleHouseModel" "givenD" "J" ∈ wsX10_goThrough := by decide +kernel
  have wd7 : Cond.fieldLink RX10 153 "ScaleHouseModel" "givenL" "J" ∈ wsX10_goThrough := by decide +kernel
  refine lv_aload_n hx hb dX10_goThrough_0 rfl (lv_at hl 0 rfl) ?_
  refine lv_aload_n hx hb dX10_goThrough_1 rfl (lv_at hl 1 rfl) ?_
  refine r_put C h 0 rfl (Cn := RX10) (T := TX10) (N := 50) rfl hinX10 tyX10 tyX10_ok nmX10 30 (by decide) (index := 77) (ref := "ScaleHouseModel") wd0 rfl rfl (v := .ref x) rfl rfl (show 30 < 50 by decide) dX10_goThrough_2 (fun H locs h => ?_)
  have h : gS G A s (pG G ad I F x gd gl x N t) H locs := h
  refine lv_aload_n hx hb dX10_goThrough_5 rfl (lv_at hl 0 rfl) ?_
  refine lv_iload_n hx hb dX10_goThrough_6 rfl (lv_at hl 2 rfl) ?_
  refine r_put C h 0 rfl (Cn := RX10) (T := TX10) (N := 50) rfl hinX10 tyX10 tyX10_ok nmX10 31 (by decide) (index := 126) (ref := "ScaleHouseModel") wd1 rfl rfl (v := .int (nI a)) rfl rfl (show 31 < 50 by decide) dX10_goThrough_7 (fun H locs h => ?_)
  have h : gS G A s (pG G ad (upd I 31 (nI a)) F x gd gl x N t) H locs := h
  refine lv_aload_n hx hb dX10_goThrough_10 rfl (lv_at hl 0 rfl) ?_
  refine lv_iload_n hx hb dX10_goThrough_11 rfl (lv_at hl 3 rfl) ?_
  refine r_put C h 0 rfl (Cn := RX10) (T := TX10) (N := 50) rfl hinX10 tyX10 tyX10_ok nmX10 32 (by decide) (index := 123) (ref := "ScaleHouseModel") wd2 rfl rfl (v := .int (nI n)) rfl rfl (show 32 < 50 by decide) dX10_goThrough_12 (fun H locs h => ?_)
  have h : gS G A s (pG G ad (upd (upd I 31 (nI a)) 32 (nI n)) F x gd gl x N t) H locs := h
  refine lv_aload_n hx hb dX10_goThrough_15 rfl (lv_at hl 0 rfl) ?_
  refine lv_iconst (v := 0) hx hb dX10_goThrough_16 (by decide) ?_
  refine lv_cgi (y := (nI 0)) (rfl) ?_
  refine r_put C h 0 rfl (Cn := RX10) (T := TX10) (N := 50) rfl hinX10 tyX10 tyX10_ok nmX10 33 (by decide) (index := 120) (ref := "ScaleHouseModel") wd3 rfl rfl (v := .int (nI 0)) rfl rfl (show 33 < 50 by decide) dX10_goThrough_17 (fun H locs h => ?_)
  have h : gS G A s (pG G ad (upd (upd (upd I 31 (nI a)) 32 (nI n)) 33 (nI 0)) F x gd gl x N t) H locs := h
  refine lv_aload_n hx hb dX10_goThrough_20 rfl (lv_at hl 0 rfl) ?_
  refine lv_iconst (v := 0) hx hb dX10_goThrough_21 (by decide) ?_
  refine lv_cgi (y := (nI 0)) (rfl) ?_
  refine r_put C h 0 rfl (Cn := RX10) (T := TX10) (N := 50) rfl hinX10 tyX10 tyX10_ok nmX10 35 (by decide) (index := 156) (ref := "ScaleHouseModel") wd4 rfl rfl (v := .int (nI 0)) rfl rfl (show 35 < 50 by decide) dX10_goThrough_22 (fun H locs h => ?_)
  have h : gS G A s (pG G ad (upd (upd (upd (upd I 31 (nI a)) 32 (nI n)) 33 (nI 0)) 35 (nI 0)) F x gd gl x N t) H locs := h
  refine lv_aload_n hx hb dX10_goThrough_25 rfl (lv_at hl 0 rfl) ?_
  refine lv_iconst (v := -1) hx hb dX10_goThrough_26 (by decide) ?_
  refine r_put C h 0 rfl (Cn := RX10) (T := TX10) (N := 50) rfl hinX10 tyX10 tyX10_ok nmX10 34 (by decide) (index := 129) (ref := "ScaleHouseModel") wd5 rfl rfl (v := .int (-1)) rfl rfl (show 34 < 50 by decide) dX10_goThrough_27 (fun H locs h => ?_)
  have h : gS G A s (pG G ad (upd (upd (upd (upd (upd I 31 (nI a)) 32 (nI n)) 33 (nI 0)) 35 (nI 0)) 34 (-1)) F x gd gl x N t) H locs := h
  refine lv_aload_n hx hb dX10_goThrough_30 rfl (lv_at hl 0 rfl) ?_
  refine lv_iload hx hb dX10_goThrough_31 (lv_at hl 4 rfl) ?_
  refine lv_i2l hx hb dX10_goThrough_33 rfl ?_
  refine r_put C h 0 rfl (Cn := RX10) (T := TX10) (N := 50) rfl hinX10 tyX10 tyX10_ok nmX10 36 (by decide) (index := 149) (ref := "ScaleHouseModel") wd6 rfl rfl (v := .long d.toInt64) rfl rfl (show 36 < 50 by decide) dX10_goThrough_34 (fun H locs h => ?_)
  have h : gS G A s (pG G ad (upd (upd (upd (upd (upd I 31 (nI a)) 32 (nI n)) 33 (nI 0)) 35 (nI 0)) 34 (-1)) F x d.toInt64 gl x N t) H locs := h
  refine lv_aload_n hx hb dX10_goThrough_37 rfl (lv_at hl 0 rfl) ?_
  refine lv_iload hx hb dX10_goThrough_38 (lv_at hl 5 rfl) ?_
  refine lv_i2l hx hb dX10_goThrough_40 rfl ?_
  refine r_put C h 0 rfl (Cn := RX10) (T := TX10) (N := 50) rfl hinX10 tyX10 tyX10_ok nmX10 37 (by decide) (index := 153) (ref := "ScaleHouseModel") wd7 rfl rfl (v := .long lq.toInt64) rfl rfl (show 37 < 50 by decide) dX10_goThrough_41 (fun H locs h => ?_)
  have h : gS G A s (pG G ad (upd (upd (upd (upd (upd I 31 (nI a)) 32 (nI n)) 33 (nI 0)) 35 (nI 0)) 34 (-1)) F x d.toInt64 lq.toInt64 x N t) H locs := h
  refine lv_aload_n hx hb dX10_goThrough_44 rfl (lv_at hl 0 rfl) ?_
  have hp : List.Perm (pG G ad (upd (upd (upd (upd (upd I 31 (nI a)) 32 (nI n)) 33 (nI 0)) 35 (nI 0)) 34 (-1)) F x d.toInt64 lq.toInt64 x N t : va_W) ([((ad 0), .inr (10, [.int (I 0), .ref (ad 1), .ref (ad 2), .ref (ad 3), .ref (ad 4), .ref (ad 5), .ref (ad 6), .ref (ad 7), .ref (ad 8), .ref (ad 9), .ref (ad 10), .ref (ad 11), .ref (ad 12), .ref (ad 13), .ref (ad 14), .ref (ad 15), .ref (ad 16), .ref (ad 17), .ref (ad 18), .ref (ad 19), .ref (ad 20), .ref (ad 21), .ref (ad 22), .int (I 23), .int (I 24), .int (I 25), .int (I 26), .int (I 27), .int (I 28), .int (I 29), .ref x, .int (nI a), .int (nI n), .int (nI 0), .int (-1), .int (nI 0), .long d.toInt64, .long lq.toInt64, .ref (ad 38), .ref (ad 39), .ref (ad 40), .ref (ad 41), .ref (ad 42), .ref (ad 43), .int (I 44), .int (I 45), .int (I 46), .int (I 47), .int (I 48), .int (I 49)])), (x, .inl (G.2.2 0, N, .inl t))] ++ []) := pm 2 rfl [0, 1] (by decide +kernel) rfl
  refine k_l C h hp (r_runV C h hp 0 rfl rfl (As := []) (rest := []) (m_sumsAll l G ad I F x d.toInt64 lq.toInt64 N t a n hN hN2 8 0 rfl 0 (Nat.zero_le _)) (cwV 0 C.1.1.2.2.2.2 gX10_goThrough_X10_sums rfl rfl rfl (by decide +kernel) ⟨by simp only [gR]; omega, by simp only [gR]; omega⟩) rfl hl.1 (Nat.le_of_ble_eq_true rfl) dX10_goThrough_45 ⟨Nat.le_of_ble_eq_true rfl, Nat.le_of_ble_eq_true rfl⟩) (fun v1 u1 H locs hwu1 h => ?_)
  have h : gS G A s (pG G ad (upd (upd (upd (upd (upd I 31 (nI a)) 32 (nI n)) 33 u1.1) 35 u1.2.2) 34 u1.2.1) F x d.toInt64 lq.toInt64 x N t) H locs := h
  refine W.widen (k := 0) (n := 0) (Nat.le_of_ble_eq_true rfl) (Nat.le_of_ble_eq_true rfl) ?_
  refine lv_lstore (lv' := [(6, .long v1), (0, .ref (ad 0)), (1, .ref x), (2, .int (nI a)), (3, .int (nI n)), (4, .int d), (5, .int lq)]) hx hb dX10_goThrough_48 hl (by decide) rfl (fun ls hl => ?_)
  refine lv_aload_n hx hb dX10_goThrough_50 rfl (lv_at hl 1 rfl) ?_
  refine r_get C h 0 rfl (Cn := RX10) (T := TX10) (N := 50) rfl hinX10 34 (by decide) (index := 129) (ref := "ScaleHouseModel") wd5 rfl (v := .int u1.2.1) rfl dX10_goThrough_51 ?_
  refine lv_iconst (v := -1) hx hb dX10_goThrough_54 (by decide) ?_
  refine lv_icmp_ne (tgt := 71) hx hb dX10_goThrough_55 (by decide) (fun c_55 => ?_) (fun c_55 => ?_)
  · obtain ⟨q, hZ1, hq⟩ := pQ_f (n := n) (k := 0) hwu1 c_55
    refine lv_lload hx hb dX10_goThrough_71 (lv_at hl 0 rfl) ?_
    exact r_lret C h hr hlk (Nat.zero_le _) (Nat.zero_le _) (u1.1, u1.2.1, u1.2.2) (by rw [show pGo t a n d.toInt64 lq.toInt64 = .inl q from by rw [pGo, hZ1]]; exact hq) (rfl) dX10_goThrough_73
  · obtain ⟨k2, hZ1, hu1, hk21, hk22⟩ := pQ_t hwu1 (pS_B (by omega) (8 + 1) 0 (Nat.zero_le _) (Or.inr (by decide))) (by omega) c_55
    subst hu1
    have h : gS G A s (pG G ad (upd (upd (upd (upd (upd I 31 (nI a)) 32 (nI n)) 33 (nI k2)) 35 (nI 0)) 34 (-1)) F x d.toInt64 lq.toInt64 x N t) H locs := h
    refine lv_aload_n hx hb dX10_goThrough_58 rfl (lv_at hl 1 rfl) ?_
    have hp : List.Perm (pG G ad (upd (upd (upd (upd (upd I 31 (nI a)) 32 (nI n)) 33 (nI k2)) 35 (nI 0)) 34 (-1)) F x d.toInt64 lq.toInt64 x N t : va_W) ([((ad 0), .inr (10, [.int (I 0), .ref (ad 1), .ref (ad 2), .ref (ad 3), .ref (ad 4), .ref (ad 5), .ref (ad 6), .ref (ad 7), .ref (ad 8), .ref (ad 9), .ref (ad 10), .ref (ad 11), .ref (ad 12), .ref (ad 13), .ref (ad 14), .ref (ad 15), .ref (ad 16), .ref (ad 17), .ref (ad 18), .ref (ad 19), .ref (ad 20), .ref (ad 21), .ref (ad 22), .int (I 23), .int (I 24), .int (I 25), .int (I 26), .int (I 27), .int (I 28), .int (I 29), .ref x, .int (nI a), .int (nI n), .int (nI k2), .int (-1), .int (nI 0), .long d.toInt64, .long lq.toInt64, .ref (ad 38), .ref (ad 39), .ref (ad 40), .ref (ad 41), .ref (ad 42), .ref (ad 43), .int (I 44), .int (I 45), .int (I 46), .int (I 47), .int (I 48), .int (I 49)])), (x, .inl (G.2.2 0, N, .inl t))] ++ []) := pm 2 rfl [0, 1] (by decide +kernel) rfl
    refine k_i C h hp (r_runV C h hp 0 rfl rfl (As := []) (rest := []) (m_look l G ad I F x d.toInt64 lq.toInt64 N t a n hN hN2 k2 (-1) (nI 0) (by omega)) (cwV 0 C.1.1.2.2.2.2 gX10_goThrough_X10_look rfl rfl rfl (by decide +kernel) ⟨by simp only [gR]; omega, by simp only [gR]; omega⟩) rfl hl.1 (Nat.le_of_ble_eq_true rfl) dX10_goThrough_59 ⟨Nat.le_of_ble_eq_true rfl, Nat.le_of_ble_eq_true rfl⟩) (fun r_1 u_2 H locs hw_3 h => ?_)
    subst hw_3
    have hgj := lk_ge t a n k2 (by omega)
    have hsj := lk_lk t a n k2 (by omega)
    generalize ej : lk t a n k2 = j at h hgj hsj ⊢
    have h : gS G A s (pG G ad (upd (upd (upd (upd (upd I 31 (nI a)) 32 (nI n)) 33 (nI j)) 35 (nI 0)) 34 (-1)) F x d.toInt64 lq.toInt64 x N t) H locs := h
    refine W.widen (k := 0) (n := 0) (Nat.le_of_ble_eq_true rfl) (Nat.le_of_ble_eq_true rfl) ?_
    refine lv_iconst (v := -1) hx hb dX10_goThrough_62 (by decide) ?_
    refine lv_icmp_eq (tgt := 71) hx hb dX10_goThrough_63 (by decide) (fun c_63 => ?_) (fun c_63 => ?_)
    · refine lv_lload hx hb dX10_goThrough_71 (lv_at hl 0 rfl) ?_
      exact r_lret C h hr hlk (Nat.zero_le _) (Nat.zero_le _) ((nI j), (-1), (nI 0)) (by rw [show pGo t a n d.toInt64 lq.toInt64 = .inr v1 from by rw [pGo, hZ1]; simp only [ej, if_pos c_63]]; exact ⟨rfl, rfl⟩) (rfl) dX10_goThrough_73
    · refine lv_aload_n hx hb dX10_goThrough_66 rfl (lv_at hl 1 rfl) ?_
      have hp : List.Perm (pG G ad (upd (upd (upd (upd (upd I 31 (nI a)) 32 (nI n)) 33 (nI j)) 35 (nI 0)) 34 (-1)) F x d.toInt64 lq.toInt64 x N t : va_W) ([((ad 0), .inr (10, [.int (I 0), .ref (ad 1), .ref (ad 2), .ref (ad 3), .ref (ad 4), .ref (ad 5), .ref (ad 6), .ref (ad 7), .ref (ad 8), .ref (ad 9), .ref (ad 10), .ref (ad 11), .ref (ad 12), .ref (ad 13), .ref (ad 14), .ref (ad 15), .ref (ad 16), .ref (ad 17), .ref (ad 18), .ref (ad 19), .ref (ad 20), .ref (ad 21), .ref (ad 22), .int (I 23), .int (I 24), .int (I 25), .int (I 26), .int (I 27), .int (I 28), .int (I 29), .ref x, .int (nI a), .int (nI n), .int (nI j), .int (-1), .int (nI 0), .long d.toInt64, .long lq.toInt64, .ref (ad 38), .ref (ad 39), .ref (ad 40), .ref (ad 41), .ref (ad 42), .ref (ad 43), .int (I 44), .int (I 45), .int (I 46), .int (I 47), .int (I 48), .int (I 49)])), (x, .inl (G.2.2 0, N, .inl t))] ++ []) := pm 2 rfl [0, 1] (by decide +kernel) rfl
      refine k_l C h hp (r_runV C h hp 0 rfl rfl (As := []) (rest := []) (m_wrong l G ad I F x d.toInt64 lq.toInt64 N t a n hN hN2 (nI j) (nI 0)) (cwV 0 C.1.1.2.2.2.2 gX10_goThrough_X10_wrong rfl rfl rfl (by decide +kernel) ⟨by simp only [gR]; omega, by simp only [gR]; omega⟩) rfl hl.1 (Nat.le_of_ble_eq_true rfl) dX10_goThrough_67 ⟨Nat.le_of_ble_eq_true rfl, Nat.le_of_ble_eq_true rfl⟩) (fun r_4 u_5 H locs hw_6 h => ?_)
      have h : gS G A s (pG G ad (upd (upd (upd (upd (upd I 31 (nI a)) 32 (nI n)) 33 (nI j)) 35 (nI 0)) 34 (nI j)) F x d.toInt64 lq.toInt64 x N t) H locs := h
      refine W.widen (k := 0) (n := 0) (Nat.le_of_ble_eq_true rfl) (Nat.le_of_ble_eq_true rfl) ?_
      subst hw_6
      exact r_lret C h hr hlk (Nat.zero_le _) (Nat.zero_le _) ((nI j), (nI j), (nI 0)) (by rw [show pGo t a n d.toInt64 lq.toInt64 = .inl j from by rw [pGo, hZ1]; simp only [ej, if_neg c_63]]; exact rfl) (rfl) dX10_goThrough_70

set_option maxHeartbeats 4000000 in
set_option maxRecDepth 100000 in
theorem m_fault (l : Launch) (G : gG) (ad : Nat → Nat) (I : Nat → Int32) (F : Nat → Nat → Int32) (rw : Nat) (gd gl : Int64) (n : Nat) (hn : I 23 = nI n) (hn2 : n ≤ 120) : cM l yX10_fault wsX10_fault 88 950 (0) (0) G [.ref (ad 0)] (mW G ad I F rw gd gl) (qI G (S := (Nat → Int32) × Nat × Int64 × Int64) (fun r u => r = mFau (F 1) n ∧ jk (upd I 0 0) u.1) (fun u => mW G ad u.1 F u.2.1 u.2.2.1 u.2.2.2)) := by
  refine o_M (cc := cX10_fault) (maxL := 3) (ret := (some .int)) (own := RX10) (by decide +kernel) rfl rfl (Nat.le_of_ble_eq_true rfl) ?_
  intro p e s m below meth c A ls H locs hA C h hr hlk hnm hl
  have hx := C.1.1.1
  have hb := C.1.1.2.1
  have hl : lv_has ls 3 [(0, .ref (ad 0))] := hl
  have wd0 : Cond.fieldLink RX10 106 "ScaleHouseModel" "thrown" "I" ∈ wsX10_fault := by decide +kernel
  have hinX10 : ∀ w ∈ wsX100, w ∈ wsX10_fault := fun _ h => List.mem_cons_of_mem _ (List.mem_append_right _ h)
  have wd1 : Cond.fieldLink RX10 9 "ScaleHouseModel" "tape" "[B" ∈ wsX10_fault := by decide +kernel
  have wd2 : Cond.fieldLink RX10 109 "ScaleHouseModel" "length" "I" ∈ wsX10_fault := by decide +kernel
  have wd3 : Cond.fieldLink RX10 129 "ScaleHouseModel" "fault" "I" ∈ wsX10_fault := by decide +kernel
  refine lv_aload_n hx hb dX10_fault_0 rfl (lv_at hl 0 rfl) ?_
  refine lv_iconst (v := 0) hx hb dX10_fault_1 (by decide) ?_
  refine r_put C h 0 rfl (Cn := RX10) (T := TX10) (N := 50) rfl hinX10 tyX10 tyX10_ok nmX10 0 (by decide) (index := 106) (ref := "ScaleHouseModel") wd0 rfl rfl (v := .int 0) rfl rfl (show 0 < 50 by decide) dX10_fault_2 (fun H locs h => ?_)
  have h : gS G A s (mW G ad (upd I 0 0) F rw gd gl) H locs := h
  refine lv_aload_n hx hb dX10_fault_5 rfl (lv_at hl 0 rfl) ?_
  refine lv_aload_n hx hb dX10_fault_6 rfl (lv_at hl 0 rfl) ?_
  refine r_get C h 0 rfl (Cn := RX10) (T := TX10) (N := 50) rfl hinX10 1 (by decide) (index := 9) (ref := "ScaleHouseModel") wd1 rfl (v := .ref (ad 1)) rfl dX10_fault_7 ?_
  refine lv_iconst (v := 0) hx hb dX10_fault_10 (by decide) ?_
  refine lv_cgi (y := (nI 0)) (rfl) ?_
  refine lv_aload_n hx hb dX10_fault_11 rfl (lv_at hl 0 rfl) ?_
  refine r_get C h 0 rfl (Cn := RX10) (T := TX10) (N := 50) rfl hinX10 23 (by decide) (index := 109) (ref := "ScaleHouseModel") wd2 rfl (v := .int (I 23)) rfl dX10_fault_12 ?_
  refine lv_cgi (y := (nI n)) (hn) ?_
  refine lv_iconst (v := 1) hx hb dX10_fault_15 (by decide) ?_
  refine lv_iconst (v := 1) hx hb dX10_fault_16 (by decide) ?_
  have hp : List.Perm (mW G ad (upd I 0 0) F rw gd gl : va_W) ([((ad 0), .inr (10, [.int 0, .ref (ad 1), .ref (ad 2), .ref (ad 3), .ref (ad 4), .ref (ad 5), .ref (ad 6), .ref (ad 7), .ref (ad 8), .ref (ad 9), .ref (ad 10), .ref (ad 11), .ref (ad 12), .ref (ad 13), .ref (ad 14), .ref (ad 15), .ref (ad 16), .ref (ad 17), .ref (ad 18), .ref (ad 19), .ref (ad 20), .ref (ad 21), .ref (ad 22), .int (I 23), .int (I 24), .int (I 25), .int (I 26), .int (I 27), .int (I 28), .int (I 29), .ref rw, .int (I 31), .int (I 32), .int (I 33), .int (I 34), .int (I 35), .long gd, .long gl, .ref (ad 38), .ref (ad 39), .ref (ad 40), .ref (ad 41), .ref (ad 42), .ref (ad 43), .int (I 44), .int (I 45), .int (I 46), .int (I 47), .int (I 48), .int (I 49)])), ((ad 1), .inl (G.2.2 0, 120, .inl (F 1)))] ++ [((ad 2), .inl (G.2.2 0, 2400, .inl (F 2))), ((ad 3), .inl (G.2.2 1, 20, .inl (F 3))), ((ad 4), .inl (G.2.2 1, 20, .inl (F 4))), ((ad 5), .inl (G.2.2 1, 20, .inl (F 5))), ((ad 6), .inl (G.2.2 1, 60, .inl (F 6))), ((ad 7), .inl (G.2.2 1, 60, .inl (F 7))), ((ad 8), .inl (G.2.2 1, 60, .inl (F 8))), ((ad 9), .inl (G.2.2 1, 60, .inl (F 9))), ((ad 10), .inl (G.2.2 1, 100, .inl (F 10))), ((ad 11), .inl (G.2.2 1, 100, .inl (F 11))), ((ad 12), .inl (G.2.2 1, 100, .inl (F 12))), ((ad 13), .inl (G.2.2 1, 100, .inl (F 13))), ((ad 14), .inl (G.2.2 1, 100, .inl (F 14))), ((ad 15), .inl (G.2.2 1, 100, .inl (F 15))), ((ad 16), .inl (G.2.2 1, 100, .inl (F 16))), ((ad 17), .inl (G.2.2 1, 100, .inl (F 17))), ((ad 18), .inl (G.2.2 1, 100, .inl (F 18))), ((ad 19), .inl (G.2.2 1, 6, .inl (F 19))), ((ad 20), .inl (G.2.2 1, 20000, .inl (F 20))), ((ad 21), .inl (G.2.2 1, 20000, .inl (F 21))), ((ad 22), .inl (G.2.2 1, 20000, .inl (F 22))), ((ad 38), .inl (G.2.2 1, 40, .inl (F 38))), ((ad 39), .inl (G.2.2 1, 40, .inl (F 39))), ((ad 40), .inl (G.2.2 1, 2, .inl (F 40))), ((ad 41), .inl (G.2.2 1, 20, .inl (F 41))), ((ad 42), .inl (G.2.2 3, 20, .inl (F 42))), ((ad 43), .inl (G.2.2 3, 20, .inl (F 43)))]) := pm 29 rfl [0, 1, 2, 3, 4, 5, 6, 7, 8, 9, 10, 11, 12, 13, 14, 15, 16, 17, 18, 19, 20, 21, 22, 23, 24, 25, 26, 27, 28] (by decide +kernel) rfl
  refine k_l C h hp (r_runV C h hp 0 rfl rfl (As := [.ref (ad 1), .int (nI 0), .int (nI n), .int 1, .int 1]) (rest := []) (m_goThrough l G ad (upd I 0 0) F rw gd gl (ad 1) 120 (F 1) 0 n (by decide) (by omega) 1 1) (cwV 5 C.1.1.2.2.2.2 gX10_fault_X10_goThrough rfl rfl rfl (by decide +kernel) ⟨by simp only [gR]; omega, by simp only [gR]; omega⟩) rfl hl.1 (Nat.le_of_ble_eq_true rfl) dX10_fault_17 ⟨Nat.le_of_ble_eq_true rfl, Nat.le_of_ble_eq_true rfl⟩) (fun v1 u1 H locs hwu1 h => ?_)
  have h : gS G A s (mW G ad (upd (upd (upd (upd (upd (upd I 0 0) 31 (nI 0)) 32 (nI n)) 33 u1.1) 34 u1.2.1) 35 u1.2.2) F (ad 1) ((1 : Int32).toInt64) ((1 : Int32).toInt64)) H locs := h
  refine W.widen (k := 0) (n := 0) (Nat.le_of_ble_eq_true rfl) (Nat.le_of_ble_eq_true rfl) ?_
  refine lv_lstore_n (lv' := [(1, .long v1), (0, .ref (ad 0))]) hx hb dX10_fault_20 rfl hl (by decide) rfl (fun ls hl => ?_)
  refine lv_aload_n hx hb dX10_fault_21 rfl (lv_at hl 1 rfl) ?_
  refine r_get C h 0 rfl (Cn := RX10) (T := TX10) (N := 50) rfl hinX10 34 (by decide) (index := 129) (ref := "ScaleHouseModel") wd3 rfl (v := .int u1.2.1) rfl dX10_fault_22 ?_
  exact r_iret C h hr hlk (Nat.zero_le _) (Nat.zero_le _) ((upd (upd (upd (upd (upd (upd I 0 0) 31 (nI 0)) 32 (nI n)) 33 u1.1) 34 u1.2.1) 35 u1.2.2), (ad 1), ((1 : Int32).toInt64), ((1 : Int32).toInt64)) (⟨pR_fau hwu1, jk_up (jk_up (jk_up (jk_up (jk_up (jk_rf _) ⟨by decide, by decide⟩) ⟨by decide, by decide⟩) ⟨by decide, by decide⟩) ⟨by decide, by decide⟩) ⟨by decide, by decide⟩⟩) (rfl) dX10_fault_25

def cpF (f g : Nat → Int32) (b : Nat) : Nat → (Nat → Int32)
  | 0 => g
  | i + 1 => upd (cpF f g b i) (b + i) (vp_nar .byte (f i))
def mLaw (I : Nat → Int32) (F : Nat → Nat → Int32) (n k : Nat) (fr0 : Int32) : Int32 × (Nat → Int32) × (Nat → Nat → Int32) :=
  if mFau (F 1) n = -1 then if mLater fr0 = 0 then (-1, upd I 0 0, F) else if nI k = 20 then (-1, upd I 0 0, F)
    else (nI k, upd (upd (upd I 0 0) 25 (nI (k + 1))) 23 0, (va_up (va_up (va_up (va_up F 2 (cpF (F 1) (F 2) (120 * k) n)) 3 (upd (F 3) k (nI n))) 4 (upd (F 4) k fr0)) 5 (upd (F 5) k (I 24))))
  else (-1, upd I 0 0, F)

set_option maxHeartbeats 4000000 in
set_option maxRecDepth 100000 in
theorem lp_X10_law {p : Program} {l : Launch} {e : Env} {R : Room} {s : State} {m : MethodId} {args : Array Value} {below : List Frame} {meth : Method} {c : Code} {cells slots : Nat} {Q : State → Prop} {G : gG} {A : Nat → Prop} (C : gC p m c cX10_law 5 s args wsX10_law RX10 G A) (ad : Nat → Nat) (I : Nat → Int32) (F : Nat → Nat → Int32) (rw : Nat) (gd gl : Int64) (n k : Nat) (fr0 : Int32) (f2 : Nat → Int32) (hn : I 23 = nI n) (hn2 : n ≤ 120) (hk : I 25 = nI k) (hk2 : k < 20) (kx : ∀ (H : Heap) (locs : List Loc) (ls : Array Slot), gS G A s (mW G ad I (va_up F 2 (cpF (F 1) f2 (120 * k) n)) rw gd gl) H locs → lv_has ls 5 [(0, .ref (ad 0)), (1, .int fr0)] → W p l e R s m args below meth c H locs cells slots Q (F0 m 87 ls [])) :
    ∀ (r : Nat) (i : Nat) (H : Heap) (locs : List Loc) (ls : Array Slot), (i + r = n) →  gS G A s (mW G ad I (va_up F 2 (cpF (F 1) f2 (120 * k) i)) rw gd gl) H locs → lv_has ls 5 [(0, .ref (ad 0)), (1, .int fr0), (4, .int (nI i))] → W p l e R s m args below meth c H locs cells slots Q (F0 m 50 ls []) := by
  have hx := C.1.1.1
  have hb := C.1.1.2.1
  have wd0 : Cond.fieldLink RX10 109 "ScaleHouseModel" "length" "I" ∈ wsX10_law := by decide +kernel
  have hinX10 : ∀ w ∈ wsX100, w ∈ wsX10_law := fun _ h => List.mem_cons_of_mem _ (List.mem_append_right _ h)
  have wd1 : Cond.fieldLink RX10 13 "ScaleHouseModel" "lawText" "[B" ∈ wsX10_law := by decide +kernel
  have wd2 : Cond.fieldLink RX10 199 "ScaleHouseModel" "laws" "I" ∈ wsX10_law := by decide +kernel
  have wd3 : Cond.fieldLink RX10 9 "ScaleHouseModel" "tape" "[B" ∈ wsX10_law := by decide +kernel
  intro r
  induction r with
  | zero =>
    intro i H locs ls hi h hl
    refine lv_iload hx hb dX10_law_50 (lv_at hl 2 rfl) ?_
    refine lv_aload_n hx hb dX10_law_52 rfl (lv_at hl 0 rfl) ?_
    refine r_get C h 0 rfl (Cn := RX10) (T := TX10) (N := 50) rfl hinX10 23 (by decide) (index := 109) (ref := "ScaleHouseModel") wd0 rfl (v := .int (I 23)) rfl dX10_law_53 ?_
    refine lv_cgi (y := (nI n)) (hn) ?_
    refine lv_icmp_ge (tgt := 87) hx hb dX10_law_56 (by decide) (fun c_56 => ?_) (fun c_56 => ?_)
    · obtain rfl : i = n := by omega
      exact kx _ _ ls h (lv_sub hl [0, 1] rfl)
    · exact absurd (by rw [show i = n by omega]; exact Int32.le_refl _) c_56
  | succ r ih =>
    intro i H locs ls hi h hl
    refine lv_iload hx hb dX10_law_50 (lv_at hl 2 rfl) ?_
    refine lv_aload_n hx hb dX10_law_52 rfl (lv_at hl 0 rfl) ?_
    refine r_get C h 0 rfl (Cn := RX10) (T := TX10) (N := 50) rfl hinX10 23 (by decide) (index := 109) (ref := "ScaleHouseModel") wd0 rfl (v := .int (I 23)) rfl dX10_law_53 ?_
    refine lv_cgi (y := (nI n)) (hn) ?_
    refine lv_icmp_ge (tgt := 87) hx hb dX10_law_56 (by decide) (fun c_56 => ?_) (fun c_56 => ?_)
    · exact absurd c_56 (nI_ge (by omega) (by omega))
    · refine lv_aload_n hx hb dX10_law_59 rfl (lv_at hl 0 rfl) ?_
      refine r_get C h 0 rfl (Cn := RX10) (T := TX10) (N := 50) rfl hinX10 2 (by decide) (index := 13) (ref := "ScaleHouseModel") wd1 rfl (v := .ref (ad 2)) rfl dX10_law_60 ?_
      refine lv_bipush (v := 120) hx hb dX10_law_63 (by decide) ?_
      refine lv_aload_n hx hb dX10_law_65 rfl (lv_at hl 0 rfl) ?_
      refine r_get C h 0 rfl (Cn := RX10) (T := TX10) (N := 50) rfl hinX10 25 (by decide) (index := 199) (ref := "ScaleHouseModel") wd2 rfl (v := .int (I 25)) rfl dX10_law_66 ?_
      refine lv_cgi (y := (nI k)) (hk) ?_
      refine lv_imul hx hb dX10_law_69 ?_
      refine lv_cgi (y := (nI (120 * k))) (by rw [show (120 : Int32) = nI 120 from rfl, pk_mul]) ?_
      refine lv_iload hx hb dX10_law_70 (lv_at hl 2 rfl) ?_
      refine lv_iadd hx hb dX10_law_72 ?_
      refine lv_cgi (y := (nI (120 * k + i))) (by rw [nI_add]) ?_
      refine lv_aload_n hx hb dX10_law_73 rfl (lv_at hl 0 rfl) ?_
      refine r_get C h 0 rfl (Cn := RX10) (T := TX10) (N := 50) rfl hinX10 1 (by decide) (index := 9) (ref := "ScaleHouseModel") wd3 rfl (v := .ref (ad 1)) rfl dX10_law_74 ?_
      refine lv_iload hx hb dX10_law_77 (lv_at hl 2 rfl) ?_
      refine r_bald C h 1 rfl (i := (nI i)) (vp_in_nI (by omega) (by decide)) dX10_law_79 ?_
      refine lv_cgi (y := ((F 1) (nI i).toNatClampNeg)) rfl ?_
      refine lv_cgi (y := (F 1 i)) (nn_at (F 1) (by omega)) ?_
      refine r_bast C h 2 rfl (i := (nI (120 * k + i))) (vp_in_nI (by omega) (by decide)) dX10_law_80 (fun H locs h => ?_)
      have h : gS G A s (mW G ad I (va_up F 2 (upd (cpF (F 1) f2 (120 * k) i) (nI (120 * k + i)).toNatClampNeg (vp_nar .byte (F 1 i)))) rw gd gl) H locs := h
      rw [show (upd (cpF (F 1) f2 (120 * k) i) (nI (120 * k + i)).toNatClampNeg (vp_nar .byte (F 1 i))) = (cpF (F 1) f2 (120 * k) (i + 1)) from nn_up _ (by omega) _] at h
      have h : gS G A s (mW G ad I (va_up F 2 (cpF (F 1) f2 (120 * k) (i + 1))) rw gd gl) H locs := h
      refine lv_iinc (v := nI (i + 1)) (lv' := [(4, .int (nI (i + 1))), (0, .ref (ad 0)), (1, .int fr0)]) hx hb dX10_law_81 hl (k := 2) rfl (nI_1 _) (by decide) rfl (fun ls hl => ?_)
      refine lv_goto (tgt := 50) hx hb dX10_law_84 (by decide) ?_
      exact ih (i + 1) _ _ ls (by omega) h (lv_sub hl [1, 2, 0] rfl)

set_option maxHeartbeats 4000000 in
set_option maxRecDepth 100000 in
theorem m_law (l : Launch) (G : gG) (ad : Nat → Nat) (I : Nat → Int32) (F : Nat → Nat → Int32) (rw : Nat) (gd gl : Int64) (n k : Nat) (fr0 : Int32) (hn : I 23 = nI n) (hn2 : n ≤ 120) (hk : I 25 = nI k) (hk9 : k ≤ 20) : cM l yX10_law wsX10_law 88 950 (0) (0) G [.ref (ad 0), .int fr0] (mW G ad I F rw gd gl) (qI G (S := (Nat → Int32) × Nat × Int64 × Int64) (fun r u => r = (mLaw I F n k fr0).1 ∧ jk (mLaw I F n k fr0).2.1 u.1) (fun u => mW G ad u.1 (mLaw I F n k fr0).2.2 u.2.1 u.2.2.1 u.2.2.2)) := by
  refine o_M (cc := cX10_law) (maxL := 5) (ret := (some .int)) (own := RX10) (by decide +kernel) rfl rfl (Nat.le_of_ble_eq_true rfl) ?_
  intro p e s m below meth c A ls H locs hA C h hr hlk hnm hl
  have hx := C.1.1.1
  have hb := C.1.1.2.1
  have hl : lv_has ls 5 [(0, .ref (ad 0)), (1, .int fr0)] := hl
  have wd0 : Cond.fieldLink RX10 106 "ScaleHouseModel" "thrown" "I" ∈ wsX10_law := by decide +kernel
  have hinX10 : ∀ w ∈ wsX100, w ∈ wsX10_law := fun _ h => List.mem_cons_of_mem _ (List.mem_append_right _ h)
  have wd1 : Cond.fieldLink RX10 9 "ScaleHouseModel" "tape" "[B" ∈ wsX10_law := by decide +kernel
  have wd2 : Cond.fieldLink RX10 109 "ScaleHouseModel" "length" "I" ∈ wsX10_law := by decide +kernel
  have wd3 : Cond.fieldLink RX10 129 "ScaleHouseModel" "fault" "I" ∈ wsX10_law := by decide +kernel
  have wd4 : Cond.fieldLink RX10 199 "ScaleHouseModel" "laws" "I" ∈ wsX10_law := by decide +kernel
  have wd5 : Cond.fieldLink RX10 16 "ScaleHouseModel" "lawLong" "[I" ∈ wsX10_law := by decide +kernel
  have wd6 : Cond.fieldLink RX10 20 "ScaleHouseModel" "lawFrom" "[I" ∈ wsX10_law := by decide +kernel
  have wd7 : Cond.fieldLink RX10 23 "ScaleHouseModel" "lawTold" "[I" ∈ wsX10_law := by decide +kernel
  have wd8 : Cond.fieldLink RX10 202 "ScaleHouseModel" "now" "I" ∈ wsX10_law := by decide +kernel
  refine lv_aload_n hx hb dX10_law_0 rfl (lv_at hl 0 rfl) ?_
  refine lv_iconst (v := 0) hx hb dX10_law_1 (by decide) ?_
  refine r_put C h 0 rfl (Cn := RX10) (T := TX10) (N := 50) rfl hinX10 tyX10 tyX10_ok nmX10 0 (by decide) (index := 106) (ref := "ScaleHouseModel") wd0 rfl rfl (v := .int 0) rfl rfl (show 0 < 50 by decide) dX10_law_2 (fun H locs h => ?_)
  have h : gS G A s (mW G ad (upd I 0 0) F rw gd gl) H locs := h
  refine lv_aload_n hx hb dX10_law_5 rfl (lv_at hl 0 rfl) ?_
  refine lv_aload_n hx hb dX10_law_6 rfl (lv_at hl 0 rfl) ?_
  refine r_get C h 0 rfl (Cn := RX10) (T := TX10) (N := 50) rfl hinX10 1 (by decide) (index := 9) (ref := "ScaleHouseModel") wd1 rfl (v := .ref (ad 1)) rfl dX10_law_7 ?_
  refine lv_iconst (v := 0) hx hb dX10_law_10 (by decide) ?_
  refine lv_cgi (y := (nI 0)) (rfl) ?_
  refine lv_aload_n hx hb dX10_law_11 rfl (lv_at hl 0 rfl) ?_
  refine r_get C h 0 rfl (Cn := RX10) (T := TX10) (N := 50) rfl hinX10 23 (by decide) (index := 109) (ref := "ScaleHouseModel") wd2 rfl (v := .int (I 23)) rfl dX10_law_12 ?_
  refine lv_cgi (y := (nI n)) (hn) ?_
  refine lv_iconst (v := 1) hx hb dX10_law_15 (by decide) ?_
  refine lv_iconst (v := 1) hx hb dX10_law_16 (by decide) ?_
  have hp : List.Perm (mW G ad (upd I 0 0) F rw gd gl : va_W) ([((ad 0), .inr (10, [.int 0, .ref (ad 1), .ref (ad 2), .ref (ad 3), .ref (ad 4), .ref (ad 5), .ref (ad 6), .ref (ad 7), .ref (ad 8), .ref (ad 9), .ref (ad 10), .ref (ad 11), .ref (ad 12), .ref (ad 13), .ref (ad 14), .ref (ad 15), .ref (ad 16), .ref (ad 17), .ref (ad 18), .ref (ad 19), .ref (ad 20), .ref (ad 21), .ref (ad 22), .int (I 23), .int (I 24), .int (I 25), .int (I 26), .int (I 27), .int (I 28), .int (I 29), .ref rw, .int (I 31), .int (I 32), .int (I 33), .int (I 34), .int (I 35), .long gd, .long gl, .ref (ad 38), .ref (ad 39), .ref (ad 40), .ref (ad 41), .ref (ad 42), .ref (ad 43), .int (I 44), .int (I 45), .int (I 46), .int (I 47), .int (I 48), .int (I 49)])), ((ad 1), .inl (G.2.2 0, 120, .inl (F 1)))] ++ [((ad 2), .inl (G.2.2 0, 2400, .inl (F 2))), ((ad 3), .inl (G.2.2 1, 20, .inl (F 3))), ((ad 4), .inl (G.2.2 1, 20, .inl (F 4))), ((ad 5), .inl (G.2.2 1, 20, .inl (F 5))), ((ad 6), .inl (G.2.2 1, 60, .inl (F 6))), ((ad 7), .inl (G.2.2 1, 60, .inl (F 7))), ((ad 8), .inl (G.2.2 1, 60, .inl (F 8))), ((ad 9), .inl (G.2.2 1, 60, .inl (F 9))), ((ad 10), .inl (G.2.2 1, 100, .inl (F 10))), ((ad 11), .inl (G.2.2 1, 100, .inl (F 11))), ((ad 12), .inl (G.2.2 1, 100, .inl (F 12))), ((ad 13), .inl (G.2.2 1, 100, .inl (F 13))), ((ad 14), .inl (G.2.2 1, 100, .inl (F 14))), ((ad 15), .inl (G.2.2 1, 100, .inl (F 15))), ((ad 16), .inl (G.2.2 1, 100, .inl (F 16))), ((ad 17), .inl (G.2.2 1, 100, .inl (F 17))), ((ad 18), .inl (G.2.2 1, 100, .inl (F 18))), ((ad 19), .inl (G.2.2 1, 6, .inl (F 19))), ((ad 20), .inl (G.2.2 1, 20000, .inl (F 20))), ((ad 21), .inl (G.2.2 1, 20000, .inl (F 21))), ((ad 22), .inl (G.2.2 1, 20000, .inl (F 22))), ((ad 38), .inl (G.2.2 1, 40, .inl (F 38))), ((ad 39), .inl (G.2.2 1, 40, .inl (F 39))), ((ad 40), .inl (G.2.2 1, 2, .inl (F 40))), ((ad 41), .inl (G.2.2 1, 20, .inl (F 41))), ((ad 42), .inl (G.2.2 3, 20, .inl (F 42))), ((ad 43), .inl (G.2.2 3, 20, .inl (F 43)))]) := pm 29 rfl [0, 1, 2, 3, 4, 5, 6, 7, 8, 9, 10, 11, 12, 13, 14, 15, 16, 17, 18, 19, 20, 21, 22, 23, 24, 25, 26, 27, 28] (by decide +kernel) rfl
  refine k_l C h hp (r_runV C h hp 0 rfl rfl (As := [.ref (ad 1), .int (nI 0), .int (nI n), .int 1, .int 1]) (rest := []) (m_goThrough l G ad (upd I 0 0) F rw gd gl (ad 1) 120 (F 1) 0 n (by decide) (by omega) 1 1) (cwV 5 C.1.1.2.2.2.2 gX10_law_X10_goThrough rfl rfl rfl (by decide +kernel) ⟨by simp only [gR]; omega, by simp only [gR]; omega⟩) rfl hl.1 (Nat.le_of_ble_eq_true rfl) dX10_law_17 ⟨Nat.le_of_ble_eq_true rfl, Nat.le_of_ble_eq_true rfl⟩) (fun v1 u1 H locs hwu1 h => ?_)
  have h : gS G A s (mW G ad (upd (upd (upd (upd (upd (upd I 0 0) 31 (nI 0)) 32 (nI n)) 33 u1.1) 34 u1.2.1) 35 u1.2.2) F (ad 1) ((1 : Int32).toInt64) ((1 : Int32).toInt64)) H locs := h
  refine W.widen (k := 0) (n := 0) (Nat.le_of_ble_eq_true rfl) (Nat.le_of_ble_eq_true rfl) ?_
  refine lv_lstore_n (lv' := [(2, .long v1), (0, .ref (ad 0)), (1, .int fr0)]) hx hb dX10_law_20 rfl hl (by decide) rfl (fun ls hl => ?_)
  refine lv_aload_n hx hb dX10_law_21 rfl (lv_at hl 1 rfl) ?_
  refine r_get C h 0 rfl (Cn := RX10) (T := TX10) (N := 50) rfl hinX10 34 (by decide) (index := 129) (ref := "ScaleHouseModel") wd3 rfl (v := .int u1.2.1) rfl dX10_law_22 ?_
  refine lv_iconst (v := -1) hx hb dX10_law_25 (by decide) ?_
  refine lv_icmp_ne (tgt := 45) hx hb dX10_law_26 (by decide) (fun c_26 => ?_) (fun c_26 => ?_)
  · have d26 : ¬ mFau (F 1) n = -1 := by rw [← pR_fau hwu1]; exact c_26
    refine lv_iconst (v := -1) hx hb dX10_law_45 (by decide) ?_
    have hs : mLaw I F n k fr0 = (-1, upd I 0 0, F) := by simp only [mLaw, if_neg d26]
    exact r_iret C h hr hlk (Nat.zero_le _) (Nat.zero_le _) ((upd (upd (upd (upd (upd (upd I 0 0) 31 (nI 0)) 32 (nI n)) 33 u1.1) 34 u1.2.1) 35 u1.2.2), (ad 1), ((1 : Int32).toInt64), ((1 : Int32).toInt64)) (by rw [hs]; exact ⟨rfl, jk_up (jk_up (jk_up (jk_up (jk_up (jk_rf _) ⟨by decide, by decide⟩) ⟨by decide, by decide⟩) ⟨by decide, by decide⟩) ⟨by decide, by decide⟩) ⟨by decide, by decide⟩⟩) (by rw [hs]) dX10_law_46
  · have d26 : mFau (F 1) n = -1 := by rw [← pR_fau hwu1]; exact c_26
    refine lv_iload_n hx hb dX10_law_29 rfl (lv_at hl 2 rfl) ?_
    have hp : List.Perm (mW G ad (upd (upd (upd (upd (upd (upd I 0 0) 31 (nI 0)) 32 (nI n)) 33 u1.1) 34 u1.2.1) 35 u1.2.2) F (ad 1) ((1 : Int32).toInt64) ((1 : Int32).toInt64) : va_W) ([] ++ ([((ad 0), .inr (10, [.int 0, .ref (ad 1), .ref (ad 2), .ref (ad 3), .ref (ad 4), .ref (ad 5), .ref (ad 6), .ref (ad 7), .ref (ad 8), .ref (ad 9), .ref (ad 10), .ref (ad 11), .ref (ad 12), .ref (ad 13), .ref (ad 14), .ref (ad 15), .ref (ad 16), .ref (ad 17), .ref (ad 18), .ref (ad 19), .ref (ad 20), .ref (ad 21), .ref (ad 22), .int (I 23), .int (I 24), .int (I 25), .int (I 26), .int (I 27), .int (I 28), .int (I 29), .ref (ad 1), .int (nI 0), .int (nI n), .int u1.1, .int u1.2.1, .int u1.2.2, .long ((1 : Int32).toInt64), .long ((1 : Int32).toInt64), .ref (ad 38), .ref (ad 39), .ref (ad 40), .ref (ad 41), .ref (ad 42), .ref (ad 43), .int (I 44), .int (I 45), .int (I 46), .int (I 47), .int (I 48), .int (I 49)])), ((ad 1), .inl (G.2.2 0, 120, .inl (F 1))), ((ad 2), .inl (G.2.2 0, 2400, .inl (F 2))), ((ad 3), .inl (G.2.2 1, 20, .inl (F 3))), ((ad 4), .inl (G.2.2 1, 20, .inl (F 4))), ((ad 5), .inl (G.2.2 1, 20, .inl (F 5))), ((ad 6), .inl (G.2.2 1, 60, .inl (F 6))), ((ad 7), .inl (G.2.2 1, 60, .inl (F 7))), ((ad 8), .inl (G.2.2 1, 60, .inl (F 8))), ((ad 9), .inl (G.2.2 1, 60, .inl (F 9))), ((ad 10), .inl (G.2.2 1, 100, .inl (F 10))), ((ad 11), .inl (G.2.2 1, 100, .inl (F 11))), ((ad 12), .inl (G.2.2 1, 100, .inl (F 12))), ((ad 13), .inl (G.2.2 1, 100, .inl (F 13))), ((ad 14), .inl (G.2.2 1, 100, .inl (F 14))), ((ad 15), .inl (G.2.2 1, 100, .inl (F 15))), ((ad 16), .inl (G.2.2 1, 100, .inl (F 16))), ((ad 17), .inl (G.2.2 1, 100, .inl (F 17))), ((ad 18), .inl (G.2.2 1, 100, .inl (F 18))), ((ad 19), .inl (G.2.2 1, 6, .inl (F 19))), ((ad 20), .inl (G.2.2 1, 20000, .inl (F 20))), ((ad 21), .inl (G.2.2 1, 20000, .inl (F 21))), ((ad 22), .inl (G.2.2 1, 20000, .inl (F 22))), ((ad 38), .inl (G.2.2 1, 40, .inl (F 38))), ((ad 39), .inl (G.2.2 1, 40, .inl (F 39))), ((ad 40), .inl (G.2.2 1, 2, .inl (F 40))), ((ad 41), .inl (G.2.2 1, 20, .inl (F 41))), ((ad 42), .inl (G.2.2 3, 20, .inl (F 42))), ((ad 43), .inl (G.2.2 3, 20, .inl (F 43)))])) := List.Perm.refl _
    refine k_i C h hp (r_runS C h hp (As := [.int fr0]) (rest := []) (m_isLaterDay l G fr0) (va_cwS 1 C.1.1.2.2.2.2 gX10_law_X10_isLaterDay rfl rfl rfl (by decide +kernel) ⟨Nat.le_of_ble_eq_true rfl, Nat.le_of_ble_eq_true rfl⟩) rfl hl.1 (Nat.le_of_ble_eq_true rfl) dX10_law_30 ⟨Nat.le_of_ble_eq_true rfl, Nat.le_of_ble_eq_true rfl⟩) (fun r_1 u_2 H locs hw_3 h => ?_)
    have h : gS G A s (mW G ad (upd (upd (upd (upd (upd (upd I 0 0) 31 (nI 0)) 32 (nI n)) 33 u1.1) 34 u1.2.1) 35 u1.2.2) F (ad 1) ((1 : Int32).toInt64) ((1 : Int32).toInt64)) H locs := h
    refine W.widen (k := 0) (n := 0) (Nat.le_of_ble_eq_true rfl) (Nat.le_of_ble_eq_true rfl) ?_
    subst hw_3
    refine lv_if_eq (tgt := 45) hx hb dX10_law_33 (by decide) (fun c_33 => ?_) (fun c_33 => ?_)
    · refine lv_iconst (v := -1) hx hb dX10_law_45 (by decide) ?_
      have hs : mLaw I F n k fr0 = (-1, upd I 0 0, F) := by simp only [mLaw, if_pos d26, if_pos c_33]
      exact r_iret C h hr hlk (Nat.zero_le _) (Nat.zero_le _) ((upd (upd (upd (upd (upd (upd I 0 0) 31 (nI 0)) 32 (nI n)) 33 u1.1) 34 u1.2.1) 35 u1.2.2), (ad 1), ((1 : Int32).toInt64), ((1 : Int32).toInt64)) (by rw [hs]; exact ⟨rfl, jk_up (jk_up (jk_up (jk_up (jk_up (jk_rf _) ⟨by decide, by decide⟩) ⟨by decide, by decide⟩) ⟨by decide, by decide⟩) ⟨by decide, by decide⟩) ⟨by decide, by decide⟩⟩) (by rw [hs]) dX10_law_46
    · refine lv_aload_n hx hb dX10_law_36 rfl (lv_at hl 1 rfl) ?_
      refine r_get C h 0 rfl (Cn := RX10) (T := TX10) (N := 50) rfl hinX10 25 (by decide) (index := 199) (ref := "ScaleHouseModel") wd4 rfl (v := .int (I 25)) rfl dX10_law_37 ?_
      refine lv_cgi (y := (nI k)) (hk) ?_
      refine lv_bipush (v := 20) hx hb dX10_law_40 (by decide) ?_
      refine lv_icmp_ne (tgt := 47) hx hb dX10_law_42 (by decide) (fun c_42 => ?_) (fun c_42 => ?_)
      · have hk2 : k < 20 := Nat.lt_of_le_of_ne hk9 (fun z9 => c_42 (by rw [z9]; rfl))
        refine lv_iconst (v := 0) hx hb dX10_law_47 (by decide) ?_
        refine lv_istore (lv' := [(4, .int 0), (2, .long v1), (0, .ref (ad 0)), (1, .int fr0)]) hx hb dX10_law_48 hl (by decide) rfl (fun ls hl => ?_)
        refine lp_X10_law C ad (upd (upd (upd (upd (upd (upd I 0 0) 31 (nI 0)) 32 (nI n)) 33 u1.1) 34 u1.2.1) 35 u1.2.2) F (ad 1) ((1 : Int32).toInt64) ((1 : Int32).toInt64) n k fr0 (F 2) hn hn2 hk hk2 (fun H locs ls h hl => ?_) n 0 _ _ ls (by omega) h (lv_sub hl [2, 3, 0] rfl)
        refine lv_aload_n hx hb dX10_law_87 rfl (lv_at hl 0 rfl) ?_
        refine r_get C h 0 rfl (Cn := RX10) (T := TX10) (N := 50) rfl hinX10 3 (by decide) (index := 16) (ref := "ScaleHouseModel") wd5 rfl (v := .ref (ad 3)) rfl dX10_law_88 ?_
        refine lv_aload_n hx hb dX10_law_91 rfl (lv_at hl 0 rfl) ?_
        refine r_get C h 0 rfl (Cn := RX10) (T := TX10) (N := 50) rfl hinX10 25 (by decide) (index := 199) (ref := "ScaleHouseModel") wd4 rfl (v := .int (I 25)) rfl dX10_law_92 ?_
        refine lv_cgi (y := (nI k)) (hk) ?_
        refine lv_aload_n hx hb dX10_law_95 rfl (lv_at hl 0 rfl) ?_
        refine r_get C h 0 rfl (Cn := RX10) (T := TX10) (N := 50) rfl hinX10 23 (by decide) (index := 109) (ref := "ScaleHouseModel") wd2 rfl (v := .int (I 23)) rfl dX10_law_96 ?_
        refine lv_cgi (y := (nI n)) (hn) ?_
        refine r_iast C h 3 rfl (i := (nI k)) (vp_in_nI (by omega) (by decide)) dX10_law_99 (fun H locs h => ?_)
        have h : gS G A s (mW G ad (upd (upd (upd (upd (upd (upd I 0 0) 31 (nI 0)) 32 (nI n)) 33 u1.1) 34 u1.2.1) 35 u1.2.2) (va_up (va_up F 2 (cpF (F 1) (F 2) (120 * k) n)) 3 (upd (F 3) (nI k).toNatClampNeg (nI n))) (ad 1) ((1 : Int32).toInt64) ((1 : Int32).toInt64)) H locs := h
        rw [show (upd (F 3) (nI k).toNatClampNeg (nI n)) = (upd (F 3) k (nI n)) from nn_up (F 3) (by omega) _] at h
        have h : gS G A s (mW G ad (upd (upd (upd (upd (upd (upd I 0 0) 31 (nI 0)) 32 (nI n)) 33 u1.1) 34 u1.2.1) 35 u1.2.2) (va_up (va_up F 2 (cpF (F 1) (F 2) (120 * k) n)) 3 (upd (F 3) k (nI n))) (ad 1) ((1 : Int32).toInt64) ((1 : Int32).toInt64)) H locs := h
        refine lv_aload_n hx hb dX10_law_100 rfl (lv_at hl 0 rfl) ?_
        refine r_get C h 0 rfl (Cn := RX10) (T := TX10) (N := 50) rfl hinX10 4 (by decide) (index := 20) (ref := "ScaleHouseModel") wd6 rfl (v := .ref (ad 4)) rfl dX10_law_101 ?_
        refine lv_aload_n hx hb dX10_law_104 rfl (lv_at hl 0 rfl) ?_
        refine r_get C h 0 rfl (Cn := RX10) (T := TX10) (N := 50) rfl hinX10 25 (by decide) (index := 199) (ref := "ScaleHouseModel") wd4 rfl (v := .int (I 25)) rfl dX10_law_105 ?_
        refine lv_cgi (y := (nI k)) (hk) ?_
        refine lv_iload_n hx hb dX10_law_108 rfl (lv_at hl 1 rfl) ?_
        refine r_iast C h 4 rfl (i := (nI k)) (vp_in_nI (by omega) (by decide)) dX10_law_109 (fun H locs h => ?_)
        have h : gS G A s (mW G ad (upd (upd (upd (upd (upd (upd I 0 0) 31 (nI 0)) 32 (nI n)) 33 u1.1) 34 u1.2.1) 35 u1.2.2) (va_up (va_up (va_up F 2 (cpF (F 1) (F 2) (120 * k) n)) 3 (upd (F 3) k (nI n))) 4 (upd (F 4) (nI k).toNatClampNeg fr0)) (ad 1) ((1 : Int32).toInt64) ((1 : Int32).toInt64)) H locs := h
        rw [show (upd (F 4) (nI k).toNatClampNeg fr0) = (upd (F 4) k fr0) from nn_up (F 4) (by omega) _] at h
        have h : gS G A s (mW G ad (upd (upd (upd (upd (upd (upd I 0 0) 31 (nI 0)) 32 (nI n)) 33 u1.1) 34 u1.2.1) 35 u1.2.2) (va_up (va_up (va_up F 2 (cpF (F 1) (F 2) (120 * k) n)) 3 (upd (F 3) k (nI n))) 4 (upd (F 4) k fr0)) (ad 1) ((1 : Int32).toInt64) ((1 : Int32).toInt64)) H locs := h
        refine lv_aload_n hx hb dX10_law_110 rfl (lv_at hl 0 rfl) ?_
        refine r_get C h 0 rfl (Cn := RX10) (T := TX10) (N := 50) rfl hinX10 5 (by decide) (index := 23) (ref := "ScaleHouseModel") wd7 rfl (v := .ref (ad 5)) rfl dX10_law_111 ?_
        refine lv_aload_n hx hb dX10_law_114 rfl (lv_at hl 0 rfl) ?_
        refine r_get C h 0 rfl (Cn := RX10) (T := TX10) (N := 50) rfl hinX10 25 (by decide) (index := 199) (ref := "ScaleHouseModel") wd4 rfl (v := .int (I 25)) rfl dX10_law_115 ?_
        refine lv_cgi (y := (nI k)) (hk) ?_
        refine lv_aload_n hx hb dX10_law_118 rfl (lv_at hl 0 rfl) ?_
        refine r_get C h 0 rfl (Cn := RX10) (T := TX10) (N := 50) rfl hinX10 24 (by decide) (index := 202) (ref := "ScaleHouseModel") wd8 rfl (v := .int (I 24)) rfl dX10_law_119 ?_
        refine r_iast C h 5 rfl (i := (nI k)) (vp_in_nI (by omega) (by decide)) dX10_law_122 (fun H locs h => ?_)
        have h : gS G A s (mW G ad (upd (upd (upd (upd (upd (upd I 0 0) 31 (nI 0)) 32 (nI n)) 33 u1.1) 34 u1.2.1) 35 u1.2.2) (va_up (va_up (va_up (va_up F 2 (cpF (F 1) (F 2) (120 * k) n)) 3 (upd (F 3) k (nI n))) 4 (upd (F 4) k fr0)) 5 (upd (F 5) (nI k).toNatClampNeg (I 24))) (ad 1) ((1 : Int32).toInt64) ((1 : Int32).toInt64)) H locs := h
        rw [show (upd (F 5) (nI k).toNatClampNeg (I 24)) = (upd (F 5) k (I 24)) from nn_up (F 5) (by omega) _] at h
        have h : gS G A s (mW G ad (upd (upd (upd (upd (upd (upd I 0 0) 31 (nI 0)) 32 (nI n)) 33 u1.1) 34 u1.2.1) 35 u1.2.2) (va_up (va_up (va_up (va_up F 2 (cpF (F 1) (F 2) (120 * k) n)) 3 (upd (F 3) k (nI n))) 4 (upd (F 4) k fr0)) 5 (upd (F 5) k (I 24))) (ad 1) ((1 : Int32).toInt64) ((1 : Int32).toInt64)) H locs := h
        refine lv_aload_n hx hb dX10_law_123 rfl (lv_at hl 0 rfl) ?_
        refine lv_dup hx hb dX10_law_124 rfl ?_
        refine r_get C h 0 rfl (Cn := RX10) (T := TX10) (N := 50) rfl hinX10 25 (by decide) (index := 199) (ref := "ScaleHouseModel") wd4 rfl (v := .int (I 25)) rfl dX10_law_125 ?_
        refine lv_cgi (y := (nI k)) (hk) ?_
        refine lv_iconst (v := 1) hx hb dX10_law_128 (by decide) ?_
        refine lv_iadd hx hb dX10_law_129 ?_
        refine lv_cgi (y := (nI (k + 1))) (nI_1 k) ?_
        refine r_put C h 0 rfl (Cn := RX10) (T := TX10) (N := 50) rfl hinX10 tyX10 tyX10_ok nmX10 25 (by decide) (index := 199) (ref := "ScaleHouseModel") wd4 rfl rfl (v := .int (nI (k + 1))) rfl rfl (show 25 < 50 by decide) dX10_law_130 (fun H locs h => ?_)
        have h : gS G A s (mW G ad (upd (upd (upd (upd (upd (upd (upd I 0 0) 31 (nI 0)) 32 (nI n)) 33 u1.1) 34 u1.2.1) 35 u1.2.2) 25 (nI (k + 1))) (va_up (va_up (va_up (va_up F 2 (cpF (F 1) (F 2) (120 * k) n)) 3 (upd (F 3) k (nI n))) 4 (upd (F 4) k fr0)) 5 (upd (F 5) k (I 24))) (ad 1) ((1 : Int32).toInt64) ((1 : Int32).toInt64)) H locs := h
        refine lv_aload_n hx hb dX10_law_133 rfl (lv_at hl 0 rfl) ?_
        refine lv_iconst (v := 0) hx hb dX10_law_134 (by decide) ?_
        refine r_put C h 0 rfl (Cn := RX10) (T := TX10) (N := 50) rfl hinX10 tyX10 tyX10_ok nmX10 23 (by decide) (index := 109) (ref := "ScaleHouseModel") wd2 rfl rfl (v := .int 0) rfl rfl (show 23 < 50 by decide) dX10_law_135 (fun H locs h => ?_)
        have h : gS G A s (mW G ad (upd (upd (upd (upd (upd (upd (upd (upd I 0 0) 31 (nI 0)) 32 (nI n)) 33 u1.1) 34 u1.2.1) 35 u1.2.2) 25 (nI (k + 1))) 23 0) (va_up (va_up (va_up (va_up F 2 (cpF (F 1) (F 2) (120 * k) n)) 3 (upd (F 3) k (nI n))) 4 (upd (F 4) k fr0)) 5 (upd (F 5) k (I 24))) (ad 1) ((1 : Int32).toInt64) ((1 : Int32).toInt64)) H locs := h
        refine lv_aload_n hx hb dX10_law_138 rfl (lv_at hl 0 rfl) ?_
        refine r_get C h 0 rfl (Cn := RX10) (T := TX10) (N := 50) rfl hinX10 25 (by decide) (index := 199) (ref := "ScaleHouseModel") wd4 rfl (v := .int (nI (k + 1))) rfl dX10_law_139 ?_
        refine lv_iconst (v := 1) hx hb dX10_law_142 (by decide) ?_
        refine lv_isub hx hb dX10_law_143 ?_
        refine lv_cgi (y := (nI k)) (nI_pred k) ?_
        have hs : mLaw I F n k fr0 = (nI k, upd (upd (upd I 0 0) 25 (nI (k + 1))) 23 0, (va_up (va_up (va_up (va_up F 2 (cpF (F 1) (F 2) (120 * k) n)) 3 (upd (F 3) k (nI n))) 4 (upd (F 4) k fr0)) 5 (upd (F 5) k (I 24)))) := by simp only [mLaw, if_pos d26, if_neg c_33, if_neg c_42]
        exact r_iret C h hr hlk (Nat.zero_le _) (Nat.zero_le _) ((upd (upd (upd (upd (upd (upd (upd (upd I 0 0) 31 (nI 0)) 32 (nI n)) 33 u1.1) 34 u1.2.1) 35 u1.2.2) 25 (nI (k + 1))) 23 0), (ad 1), ((1 : Int32).toInt64), ((1 : Int32).toInt64)) (by rw [hs]; exact ⟨rfl, jk_cg (jk_cg (jk_up (jk_up (jk_up (jk_up (jk_up (jk_rf _) ⟨by decide, by decide⟩) ⟨by decide, by decide⟩) ⟨by decide, by decide⟩) ⟨by decide, by decide⟩) ⟨by decide, by decide⟩))⟩) (by rw [hs]) dX10_law_144
      · refine lv_iconst (v := -1) hx hb dX10_law_45 (by decide) ?_
        have hs : mLaw I F n k fr0 = (-1, upd I 0 0, F) := by simp only [mLaw, if_pos d26, if_neg c_33, if_pos c_42]
        exact r_iret C h hr hlk (Nat.zero_le _) (Nat.zero_le _) ((upd (upd (upd (upd (upd (upd I 0 0) 31 (nI 0)) 32 (nI n)) 33 u1.1) 34 u1.2.1) 35 u1.2.2), (ad 1), ((1 : Int32).toInt64), ((1 : Int32).toInt64)) (by rw [hs]; exact ⟨rfl, jk_up (jk_up (jk_up (jk_up (jk_up (jk_rf _) ⟨by decide, by decide⟩) ⟨by decide, by decide⟩) ⟨by decide, by decide⟩) ⟨by decide, by decide⟩) ⟨by decide, by decide⟩⟩) (by rw [hs]) dX10_law_46

def mLv (F : Nat → Nat → Int32) (L : Nat → Nat) (k : Nat) (d l : Int32) : Int64 := pRv (pGo (F 2) (120 * k) (L k) d.toInt64 l.toInt64)
/-- the laws told: their lengths, and that they have no fault -/
def mLs (F : Nat → Nat → Int32) (nl : Nat) (L : Nat → Nat) : Prop := ∀ k, k < nl → F 3 k = nI (L k) ∧ L k ≤ 120 ∧ ∀ x y, ∃ v, pGo (F 2) (120 * k) (L k) x y = .inr v

set_option maxHeartbeats 4000000 in
set_option maxRecDepth 100000 in
theorem m_lawValue (l : Launch) (G : gG) (ad : Nat → Nat) (I : Nat → Int32) (F : Nat → Nat → Int32) (rw : Nat) (gd gl : Int64) (k nl : Nat) (L : Nat → Nat) (hL : mLs F nl L) (hk : k < nl) (hnl : nl ≤ 20) (d lq : Int32) : cM l yX10_lawValue wsX10_lawValue 88 950 (0) (0) G [.ref (ad 0), .int (nI k), .int d, .int lq] (mW G ad I F rw gd gl) (qL G (S := (Nat → Int32) × Nat × Int64 × Int64) (fun r u => r = mLv F L k d lq ∧ jk I u.1) (fun u => mW G ad u.1 F u.2.1 u.2.2.1 u.2.2.2)) := by
  refine o_M (cc := cX10_lawValue) (maxL := 4) (ret := (some .long)) (own := RX10) (by decide +kernel) rfl rfl (Nat.le_of_ble_eq_true rfl) ?_
  intro p e s m below meth c A ls H locs hA C h hr hlk hnm hl
  have hx := C.1.1.1
  have hb := C.1.1.2.1
  have hl : lv_has ls 4 [(0, .ref (ad 0)), (1, .int (nI k)), (2, .int d), (3, .int lq)] := hl
  have wd0 : Cond.fieldLink RX10 13 "ScaleHouseModel" "lawText" "[B" ∈ wsX10_lawValue := by decide +kernel
  have hinX10 : ∀ w ∈ wsX100, w ∈ wsX10_lawValue := fun _ h => List.mem_cons_of_mem _ (List.mem_append_right _ h)
  have wd1 : Cond.fieldLink RX10 16 "ScaleHouseModel" "lawLong" "[I" ∈ wsX10_lawValue := by decide +kernel
  obtain ⟨hl1, hl2, hl3⟩ := hL k hk
  refine lv_aload_n hx hb dX10_lawValue_0 rfl (lv_at hl 0 rfl) ?_
  refine lv_aload_n hx hb dX10_lawValue_1 rfl (lv_at hl 0 rfl) ?_
  refine r_get C h 0 rfl (Cn := RX10) (T := TX10) (N := 50) rfl hinX10 2 (by decide) (index := 13) (ref := "ScaleHouseModel") wd0 rfl (v := .ref (ad 2)) rfl dX10_lawValue_2 ?_
  refine lv_bipush (v := 120) hx hb dX10_lawValue_5 (by decide) ?_
  refine lv_iload_n hx hb dX10_lawValue_7 rfl (lv_at hl 1 rfl) ?_
  refine lv_imul hx hb dX10_lawValue_8 ?_
  refine lv_cgi (y := (nI (120 * k))) (by rw [show (120 : Int32) = nI 120 from rfl, pk_mul]) ?_
  refine lv_aload_n hx hb dX10_lawValue_9 rfl (lv_at hl 0 rfl) ?_
  refine r_get C h 0 rfl (Cn := RX10) (T := TX10) (N := 50) rfl hinX10 3 (by decide) (index := 16) (ref := "ScaleHouseModel") wd1 rfl (v := .ref (ad 3)) rfl dX10_lawValue_10 ?_
  refine lv_iload_n hx hb dX10_lawValue_13 rfl (lv_at hl 1 rfl) ?_
  refine r_iald C h 3 rfl (i := (nI k)) (vp_in_nI (by omega) (by decide)) dX10_lawValue_14 ?_
  refine lv_cgi (y := (nI (L k))) (by rw [nn_at (F 3) (by omega), hl1]) ?_
  refine lv_iload_n hx hb dX10_lawValue_15 rfl (lv_at hl 2 rfl) ?_
  refine lv_iload_n hx hb dX10_lawValue_16 rfl (lv_at hl 3 rfl) ?_
  have hp : List.Perm (mW G ad I F rw gd gl : va_W) ([((ad 0), .inr (10, [.int (I 0), .ref (ad 1), .ref (ad 2), .ref (ad 3), .ref (ad 4), .ref (ad 5), .ref (ad 6), .ref (ad 7), .ref (ad 8), .ref (ad 9), .ref (ad 10), .ref (ad 11), .ref (ad 12), .ref (ad 13), .ref (ad 14), .ref (ad 15), .ref (ad 16), .ref (ad 17), .ref (ad 18), .ref (ad 19), .ref (ad 20), .ref (ad 21), .ref (ad 22), .int (I 23), .int (I 24), .int (I 25), .int (I 26), .int (I 27), .int (I 28), .int (I 29), .ref rw, .int (I 31), .int (I 32), .int (I 33), .int (I 34), .int (I 35), .long gd, .long gl, .ref (ad 38), .ref (ad 39), .ref (ad 40), .ref (ad 41), .ref (ad 42), .ref (ad 43), .int (I 44), .int (I 45), .int (I 46), .int (I 47), .int (I 48), .int (I 49)])), ((ad 2), .inl (G.2.2 0, 2400, .inl (F 2)))] ++ [((ad 1), .inl (G.2.2 0, 120, .inl (F 1))), ((ad 3), .inl (G.2.2 1, 20, .inl (F 3))), ((ad 4), .inl (G.2.2 1, 20, .inl (F 4))), ((ad 5), .inl (G.2.2 1, 20, .inl (F 5))), ((ad 6), .inl (G.2.2 1, 60, .inl (F 6))), ((ad 7), .inl (G.2.2 1, 60, .inl (F 7))), ((ad 8), .inl (G.2.2 1, 60, .inl (F 8))), ((ad 9), .inl (G.2.2 1, 60, .inl (F 9))), ((ad 10), .inl (G.2.2 1, 100, .inl (F 10))), ((ad 11), .inl (G.2.2 1, 100, .inl (F 11))), ((ad 12), .inl (G.2.2 1, 100, .inl (F 12))), ((ad 13), .inl (G.2.2 1, 100, .inl (F 13))), ((ad 14), .inl (G.2.2 1, 100, .inl (F 14))), ((ad 15), .inl (G.2.2 1, 100, .inl (F 15))), ((ad 16), .inl (G.2.2 1, 100, .inl (F 16))), ((ad 17), .inl (G.2.2 1, 100, .inl (F 17))), ((ad 18), .inl (G.2.2 1, 100, .inl (F 18))), ((ad 19), .inl (G.2.2 1, 6, .inl (F 19))), ((ad 20), .inl (G.2.2 1, 20000, .inl (F 20))), ((ad 21), .inl (G.2.2 1, 20000, .inl (F 21))), ((ad 22), .inl (G.2.2 1, 20000, .inl (F 22))), ((ad 38), .inl (G.2.2 1, 40, .inl (F 38))), ((ad 39), .inl (G.2.2 1, 40, .inl (F 39))), ((ad 40), .inl (G.2.2 1, 2, .inl (F 40))), ((ad 41), .inl (G.2.2 1, 20, .inl (F 41))), ((ad 42), .inl (G.2.2 3, 20, .inl (F 42))), ((ad 43), .inl (G.2.2 3, 20, .inl (F 43)))]) := pm 29 rfl [0, 2, 1, 3, 4, 5, 6, 7, 8, 9, 10, 11, 12, 13, 14, 15, 16, 17, 18, 19, 20, 21, 22, 23, 24, 25, 26, 27, 28] (by decide +kernel) rfl
  refine k_l C h hp (r_runV C h hp 0 rfl rfl (As := [.ref (ad 2), .int (nI (120 * k)), .int (nI (L k)), .int d, .int lq]) (rest := []) (m_goThrough l G ad I F rw gd gl (ad 2) 2400 (F 2) (120 * k) (L k) (by decide) (by omega) d lq) (cwV 5 C.1.1.2.2.2.2 gX10_lawValue_X10_goThrough rfl rfl rfl (by decide +kernel) ⟨by simp only [gR]; omega, by simp only [gR]; omega⟩) rfl hl.1 (Nat.le_of_ble_eq_true rfl) dX10_lawValue_17 ⟨Nat.le_of_ble_eq_true rfl, Nat.le_of_ble_eq_true rfl⟩) (fun v1 u1 H locs hwu1 h => ?_)
  have h : gS G A s ([((ad 0), .inr (10, [.int (I 0), .ref (ad 1), .ref (ad 2), .ref (ad 3), .ref (ad 4), .ref (ad 5), .ref (ad 6), .ref (ad 7), .ref (ad 8), .ref (ad 9), .ref (ad 10), .ref (ad 11), .ref (ad 12), .ref (ad 13), .ref (ad 14), .ref (ad 15), .ref (ad 16), .ref (ad 17), .ref (ad 18), .ref (ad 19), .ref (ad 20), .ref (ad 21), .ref (ad 22), .int (I 23), .int (I 24), .int (I 25), .int (I 26), .int (I 27), .int (I 28), .int (I 29), .ref (ad 2), .int (nI (120 * k)), .int (nI (L k)), .int u1.1, .int u1.2.1, .int u1.2.2, .long d.toInt64, .long lq.toInt64, .ref (ad 38), .ref (ad 39), .ref (ad 40), .ref (ad 41), .ref (ad 42), .ref (ad 43), .int (I 44), .int (I 45), .int (I 46), .int (I 47), .int (I 48), .int (I 49)])), ((ad 2), .inl (G.2.2 0, 2400, .inl (F 2)))] ++ [((ad 1), .inl (G.2.2 0, 120, .inl (F 1))), ((ad 3), .inl (G.2.2 1, 20, .inl (F 3))), ((ad 4), .inl (G.2.2 1, 20, .inl (F 4))), ((ad 5), .inl (G.2.2 1, 20, .inl (F 5))), ((ad 6), .inl (G.2.2 1, 60, .inl (F 6))), ((ad 7), .inl (G.2.2 1, 60, .inl (F 7))), ((ad 8), .inl (G.2.2 1, 60, .inl (F 8))), ((ad 9), .inl (G.2.2 1, 60, .inl (F 9))), ((ad 10), .inl (G.2.2 1, 100, .inl (F 10))), ((ad 11), .inl (G.2.2 1, 100, .inl (F 11))), ((ad 12), .inl (G.2.2 1, 100, .inl (F 12))), ((ad 13), .inl (G.2.2 1, 100, .inl (F 13))), ((ad 14), .inl (G.2.2 1, 100, .inl (F 14))), ((ad 15), .inl (G.2.2 1, 100, .inl (F 15))), ((ad 16), .inl (G.2.2 1, 100, .inl (F 16))), ((ad 17), .inl (G.2.2 1, 100, .inl (F 17))), ((ad 18), .inl (G.2.2 1, 100, .inl (F 18))), ((ad 19), .inl (G.2.2 1, 6, .inl (F 19))), ((ad 20), .inl (G.2.2 1, 20000, .inl (F 20))), ((ad 21), .inl (G.2.2 1, 20000, .inl (F 21))), ((ad 22), .inl (G.2.2 1, 20000, .inl (F 22))), ((ad 38), .inl (G.2.2 1, 40, .inl (F 38))), ((ad 39), .inl (G.2.2 1, 40, .inl (F 39))), ((ad 40), .inl (G.2.2 1, 2, .inl (F 40))), ((ad 41), .inl (G.2.2 1, 20, .inl (F 41))), ((ad 42), .inl (G.2.2 3, 20, .inl (F 42))), ((ad 43), .inl (G.2.2 3, 20, .inl (F 43)))]) H locs := h
  have h := gS.perm h (pm 29 rfl [0, 2, 1, 3, 4, 5, 6, 7, 8, 9, 10, 11, 12, 13, 14, 15, 16, 17, 18, 19, 20, 21, 22, 23, 24, 25, 26, 27, 28] (by decide +kernel) rfl : List.Perm ([((ad 0), .inr (10, [.int (I 0), .ref (ad 1), .ref (ad 2), .ref (ad 3), .ref (ad 4), .ref (ad 5), .ref (ad 6), .ref (ad 7), .ref (ad 8), .ref (ad 9), .ref (ad 10), .ref (ad 11), .ref (ad 12), .ref (ad 13), .ref (ad 14), .ref (ad 15), .ref (ad 16), .ref (ad 17), .ref (ad 18), .ref (ad 19), .ref (ad 20), .ref (ad 21), .ref (ad 22), .int (I 23), .int (I 24), .int (I 25), .int (I 26), .int (I 27), .int (I 28), .int (I 29), .ref (ad 2), .int (nI (120 * k)), .int (nI (L k)), .int u1.1, .int u1.2.1, .int u1.2.2, .long d.toInt64, .long lq.toInt64, .ref (ad 38), .ref (ad 39), .ref (ad 40), .ref (ad 41), .ref (ad 42), .ref (ad 43), .int (I 44), .int (I 45), .int (I 46), .int (I 47), .int (I 48), .int (I 49)])), ((ad 2), .inl (G.2.2 0, 2400, .inl (F 2)))] ++ [((ad 1), .inl (G.2.2 0, 120, .inl (F 1))), ((ad 3), .inl (G.2.2 1, 20, .inl (F 3))), ((ad 4), .inl (G.2.2 1, 20, .inl (F 4))), ((ad 5), .inl (G.2.2 1, 20, .inl (F 5))), ((ad 6), .inl (G.2.2 1, 60, .inl (F 6))), ((ad 7), .inl (G.2.2 1, 60, .inl (F 7))), ((ad 8), .inl (G.2.2 1, 60, .inl (F 8))), ((ad 9), .inl (G.2.2 1, 60, .inl (F 9))), ((ad 10), .inl (G.2.2 1, 100, .inl (F 10))), ((ad 11), .inl (G.2.2 1, 100, .inl (F 11))), ((ad 12), .inl (G.2.2 1, 100, .inl (F 12))), ((ad 13), .inl (G.2.2 1, 100, .inl (F 13))), ((ad 14), .inl (G.2.2 1, 100, .inl (F 14))), ((ad 15), .inl (G.2.2 1, 100, .inl (F 15))), ((ad 16), .inl (G.2.2 1, 100, .inl (F 16))), ((ad 17), .inl (G.2.2 1, 100, .inl (F 17))), ((ad 18), .inl (G.2.2 1, 100, .inl (F 18))), ((ad 19), .inl (G.2.2 1, 6, .inl (F 19))), ((ad 20), .inl (G.2.2 1, 20000, .inl (F 20))), ((ad 21), .inl (G.2.2 1, 20000, .inl (F 21))), ((ad 22), .inl (G.2.2 1, 20000, .inl (F 22))), ((ad 38), .inl (G.2.2 1, 40, .inl (F 38))), ((ad 39), .inl (G.2.2 1, 40, .inl (F 39))), ((ad 40), .inl (G.2.2 1, 2, .inl (F 40))), ((ad 41), .inl (G.2.2 1, 20, .inl (F 41))), ((ad 42), .inl (G.2.2 3, 20, .inl (F 42))), ((ad 43), .inl (G.2.2 3, 20, .inl (F 43)))] : va_W) (mW G ad (upd (upd (upd (upd (upd I 31 (nI (120 * k))) 32 (nI (L k))) 33 u1.1) 34 u1.2.1) 35 u1.2.2) F (ad 2) d.toInt64 lq.toInt64))
  have h : gS G A s (mW G ad (upd (upd (upd (upd (upd I 31 (nI (120 * k))) 32 (nI (L k))) 33 u1.1) 34 u1.2.1) 35 u1.2.2) F (ad 2) d.toInt64 lq.toInt64) H locs := h
  refine W.widen (k := 0) (n := 0) (Nat.le_of_ble_eq_true rfl) (Nat.le_of_ble_eq_true rfl) ?_
  exact r_lret C h hr hlk (Nat.zero_le _) (Nat.zero_le _) ((upd (upd (upd (upd (upd I 31 (nI (120 * k))) 32 (nI (L k))) 33 u1.1) 34 u1.2.1) 35 u1.2.2), (ad 2), d.toInt64, lq.toInt64) (⟨pR_v hwu1 (hl3 _ _), jk_up (jk_up (jk_up (jk_up (jk_up (jk_rf _) ⟨by decide, by decide⟩) ⟨by decide, by decide⟩) ⟨by decide, by decide⟩) ⟨by decide, by decide⟩) ⟨by decide, by decide⟩⟩) (rfl) dX10_lawValue_20

def mVok (nl x d l : Int32) : Int32 := if mIn x 0 (nl - 1) = 0 then 0 else if mIn d 0 1000 = 0 then 0 else if mIn l 0 1000 = 0 then 0 else 1
theorem mIn_k {x : Int32} {n : Nat} (h : ¬ mIn x 0 (nI n - 1) = 0) (hn : n < 2 ^ 31) : ∃ k, k < n ∧ x = nI k := by
  have h1 := Decidable.not_not.mp (fun z => h ((mIn_iff x 0 _).mpr z))
  have h0 := mIn_lim h ⟨n, Nat.le_refl _, rfl⟩ hn
  obtain ⟨j, hj, e⟩ := nI_of (x := x) (Int32.not_lt.mpr h1.1)
  refine ⟨j, ?_, e⟩
  rw [vp_in_iff, e, nI_toInt hj] at h0
  omega

theorem nI_inj2 {a b : Nat} (h : nI a = nI b) (ha : a < 2 ^ 31) (hb : b < 2 ^ 31) : a = b := by
  have := congrArg Int32.toNatClampNeg h
  rw [nI_clamp ha, nI_clamp hb] at this
  exact this
set_option maxHeartbeats 4000000 in
set_option maxRecDepth 100000 in
theorem m_value (l : Launch) (G : gG) (ad : Nat → Nat) (I : Nat → Int32) (F : Nat → Nat → Int32) (rw : Nat) (gd gl : Int64) (nl : Nat) (L : Nat → Nat) (hn : I 25 = nI nl) (hL : mLs F nl L) (hnl : nl ≤ 20) (x d lq : Int32) : cM l yX10_value wsX10_value 89 1000 (0) (0) G [.ref (ad 0), .int x, .int d, .int lq] (mW G ad I F rw gd gl) (qL G (S := (Nat → Int32) × Nat × Int64 × Int64) (fun r u => (mVok (I 25) x d lq = 0 → jk (upd I 0 1) u.1) ∧ (mVok (I 25) x d lq = 1 → jk (upd I 0 0) u.1 ∧ ∀ k, k < nl → x = nI k → r = mLv F L k d lq)) (fun u => mW G ad u.1 F u.2.1 u.2.2.1 u.2.2.2)) := by
  refine o_M (cc := cX10_value) (maxL := 4) (ret := (some .long)) (own := RX10) (by decide +kernel) rfl rfl (Nat.le_of_ble_eq_true rfl) ?_
  intro p e s m below meth c A ls H locs hA C h hr hlk hnm hl
  have hx := C.1.1.1
  have hb := C.1.1.2.1
  have hl : lv_has ls 4 [(0, .ref (ad 0)), (1, .int x), (2, .int d), (3, .int lq)] := hl
  have wd0 : Cond.fieldLink RX10 199 "ScaleHouseModel" "laws" "I" ∈ wsX10_value := by decide +kernel
  have hinX10 : ∀ w ∈ wsX100, w ∈ wsX10_value := fun _ h => List.mem_cons_of_mem _ (List.mem_append_right _ h)
  have wd1 : Cond.fieldLink RX10 106 "ScaleHouseModel" "thrown" "I" ∈ wsX10_value := by decide +kernel
  refine lv_aload_n hx hb dX10_value_0 rfl (lv_at hl 0 rfl) ?_
  refine lv_iload_n hx hb dX10_value_1 rfl (lv_at hl 1 rfl) ?_
  refine lv_iconst (v := 0) hx hb dX10_value_2 (by decide) ?_
  refine lv_aload_n hx hb dX10_value_3 rfl (lv_at hl 0 rfl) ?_
  refine r_get C h 0 rfl (Cn := RX10) (T := TX10) (N := 50) rfl hinX10 25 (by decide) (index := 199) (ref := "ScaleHouseModel") wd0 rfl (v := .int (I 25)) rfl dX10_value_4 ?_
  refine lv_iconst (v := 1) hx hb dX10_value_7 (by decide) ?_
  refine lv_isub hx hb dX10_value_8 ?_
  have hp : List.Perm (mW G ad I F rw gd gl : va_W) ([] ++ ([((ad 0), .inr (10, [.int (I 0), .ref (ad 1), .ref (ad 2), .ref (ad 3), .ref (ad 4), .ref (ad 5), .ref (ad 6), .ref (ad 7), .ref (ad 8), .ref (ad 9), .ref (ad 10), .ref (ad 11), .ref (ad 12), .ref (ad 13), .ref (ad 14), .ref (ad 15), .ref (ad 16), .ref (ad 17), .ref (ad 18), .ref (ad 19), .ref (ad 20), .ref (ad 21), .ref (ad 22), .int (I 23), .int (I 24), .int (I 25), .int (I 26), .int (I 27), .int (I 28), .int (I 29), .ref rw, .int (I 31), .int (I 32), .int (I 33), .int (I 34), .int (I 35), .long gd, .long gl, .ref (ad 38), .ref (ad 39), .ref (ad 40), .ref (ad 41), .ref (ad 42), .ref (ad 43), .int (I 44), .int (I 45), .int (I 46), .int (I 47), .int (I 48), .int (I 49)])), ((ad 1), .inl (G.2.2 0, 120, .inl (F 1))), ((ad 2), .inl (G.2.2 0, 2400, .inl (F 2))), ((ad 3), .inl (G.2.2 1, 20, .inl (F 3))), ((ad 4), .inl (G.2.2 1, 20, .inl (F 4))), ((ad 5), .inl (G.2.2 1, 20, .inl (F 5))), ((ad 6), .inl (G.2.2 1, 60, .inl (F 6))), ((ad 7), .inl (G.2.2 1, 60, .inl (F 7))), ((ad 8), .inl (G.2.2 1, 60, .inl (F 8))), ((ad 9), .inl (G.2.2 1, 60, .inl (F 9))), ((ad 10), .inl (G.2.2 1, 100, .inl (F 10))), ((ad 11), .inl (G.2.2 1, 100, .inl (F 11))), ((ad 12), .inl (G.2.2 1, 100, .inl (F 12))), ((ad 13), .inl (G.2.2 1, 100, .inl (F 13))), ((ad 14), .inl (G.2.2 1, 100, .inl (F 14))), ((ad 15), .inl (G.2.2 1, 100, .inl (F 15))), ((ad 16), .inl (G.2.2 1, 100, .inl (F 16))), ((ad 17), .inl (G.2.2 1, 100, .inl (F 17))), ((ad 18), .inl (G.2.2 1, 100, .inl (F 18))), ((ad 19), .inl (G.2.2 1, 6, .inl (F 19))), ((ad 20), .inl (G.2.2 1, 20000, .inl (F 20))), ((ad 21), .inl (G.2.2 1, 20000, .inl (F 21))), ((ad 22), .inl (G.2.2 1, 20000, .inl (F 22))), ((ad 38), .inl (G.2.2 1, 40, .inl (F 38))), ((ad 39), .inl (G.2.2 1, 40, .inl (F 39))), ((ad 40), .inl (G.2.2 1, 2, .inl (F 40))), ((ad 41), .inl (G.2.2 1, 20, .inl (F 41))), ((ad 42), .inl (G.2.2 3, 20, .inl (F 42))), ((ad 43), .inl (G.2.2 3, 20, .inl (F 43)))])) := List.Perm.refl _
  refine k_i C h hp (r_runS C h hp (As := [.int x, .int 0, .int ((I 25) - 1)]) (rest := [.ref (ad 0)]) (m_isIn l G x 0 ((I 25) - 1)) (va_cwS 3 C.1.1.2.2.2.2 gX10_value_X10_isIn rfl rfl rfl (by decide +kernel) ⟨Nat.le_of_ble_eq_true rfl, Nat.le_of_ble_eq_true rfl⟩) rfl hl.1 (Nat.le_of_ble_eq_true rfl) dX10_value_9 ⟨Nat.le_of_ble_eq_true rfl, Nat.le_of_ble_eq_true rfl⟩) (fun r_1 u_2 H locs hw_3 h => ?_)
  have h : gS G A s (mW G ad I F rw gd gl) H locs := h
  refine W.widen (k := 0) (n := 0) (Nat.le_of_ble_eq_true rfl) (Nat.le_of_ble_eq_true rfl) ?_
  subst hw_3
  refine lv_if_eq (tgt := 41) hx hb dX10_value_12 (by decide) (fun c_12 => ?_) (fun c_12 => ?_)
  · refine lv_iconst (v := 1) hx hb dX10_value_41 (by decide) ?_
    refine r_put C h 0 rfl (Cn := RX10) (T := TX10) (N := 50) rfl hinX10 tyX10 tyX10_ok nmX10 0 (by decide) (index := 106) (ref := "ScaleHouseModel") wd1 rfl rfl (v := .int 1) rfl rfl (show 0 < 50 by decide) dX10_value_42 (fun H locs h => ?_)
    have h : gS G A s (mW G ad (upd I 0 1) F rw gd gl) H locs := h
    refine lv_aload_n hx hb dX10_value_45 rfl (lv_at hl 0 rfl) ?_
    refine r_get C h 0 rfl (Cn := RX10) (T := TX10) (N := 50) rfl hinX10 0 (by decide) (index := 106) (ref := "ScaleHouseModel") wd1 rfl (v := .int 1) rfl dX10_value_46 ?_
    refine lv_if_le (tgt := 56) hx hb dX10_value_49 (by decide) (fun c_49 => ?_) (fun c_49 => ?_)
    · exact absurd c_49 (by decide)
    · refine lv_lconst (v := 0) hx hb dX10_value_52 (by decide) ?_
      refine lv_goto (tgt := 63) hx hb dX10_value_53 (by decide) ?_
      have hs : mVok (I 25) x d lq = 0 := by simp only [mVok, if_pos c_12]
      exact r_lret C h hr hlk (Nat.zero_le _) (Nat.zero_le _) ((upd I 0 1), rw, gd, gl) (⟨fun _ => jk_rf _, fun z => absurd (z.symm.trans hs) (by decide)⟩) (rfl) dX10_value_63
  · refine lv_iload_n hx hb dX10_value_15 rfl (lv_at hl 2 rfl) ?_
    refine lv_iconst (v := 0) hx hb dX10_value_16 (by decide) ?_
    refine lv_sipush (v := 1000) hx hb dX10_value_17 (by decide) ?_
    have hp : List.Perm (mW G ad I F rw gd gl : va_W) ([] ++ ([((ad 0), .inr (10, [.int (I 0), .ref (ad 1), .ref (ad 2), .ref (ad 3), .ref (ad 4), .ref (ad 5), .ref (ad 6), .ref (ad 7), .ref (ad 8), .ref (ad 9), .ref (ad 10), .ref (ad 11), .ref (ad 12), .ref (ad 13), .ref (ad 14), .ref (ad 15), .ref (ad 16), .ref (ad 17), .ref (ad 18), .ref (ad 19), .ref (ad 20), .ref (ad 21), .ref (ad 22), .int (I 23), .int (I 24), .int (I 25), .int (I 26), .int (I 27), .int (I 28), .int (I 29), .ref rw, .int (I 31), .int (I 32), .int (I 33), .int (I 34), .int (I 35), .long gd, .long gl, .ref (ad 38), .ref (ad 39), .ref (ad 40), .ref (ad 41), .ref (ad 42), .ref (ad 43), .int (I 44), .int (I 45), .int (I 46), .int (I 47), .int (I 48), .int (I 49)])), ((ad 1), .inl (G.2.2 0, 120, .inl (F 1))), ((ad 2), .inl (G.2.2 0, 2400, .inl (F 2))), ((ad 3), .inl (G.2.2 1, 20, .inl (F 3))), ((ad 4), .inl (G.2.2 1, 20, .inl (F 4))), ((ad 5), .inl (G.2.2 1, 20, .inl (F 5))), ((ad 6), .inl (G.2.2 1, 60, .inl (F 6))), ((ad 7), .inl (G.2.2 1, 60, .inl (F 7))), ((ad 8), .inl (G.2.2 1, 60, .inl (F 8))), ((ad 9), .inl (G.2.2 1, 60, .inl (F 9))), ((ad 10), .inl (G.2.2 1, 100, .inl (F 10))), ((ad 11), .inl (G.2.2 1, 100, .inl (F 11))), ((ad 12), .inl (G.2.2 1, 100, .inl (F 12))), ((ad 13), .inl (G.2.2 1, 100, .inl (F 13))), ((ad 14), .inl (G.2.2 1, 100, .inl (F 14))), ((ad 15), .inl (G.2.2 1, 100, .inl (F 15))), ((ad 16), .inl (G.2.2 1, 100, .inl (F 16))), ((ad 17), .inl (G.2.2 1, 100, .inl (F 17))), ((ad 18), .inl (G.2.2 1, 100, .inl (F 18))), ((ad 19), .inl (G.2.2 1, 6, .inl (F 19))), ((ad 20), .inl (G.2.2 1, 20000, .inl (F 20))), ((ad 21), .inl (G.2.2 1, 20000, .inl (F 21))), ((ad 22), .inl (G.2.2 1, 20000, .inl (F 22))), ((ad 38), .inl (G.2.2 1, 40, .inl (F 38))), ((ad 39), .inl (G.2.2 1, 40, .inl (F 39))), ((ad 40), .inl (G.2.2 1, 2, .inl (F 40))), ((ad 41), .inl (G.2.2 1, 20, .inl (F 41))), ((ad 42), .inl (G.2.2 3, 20, .inl (F 42))), ((ad 43), .inl (G.2.2 3, 20, .inl (F 43)))])) := List.Perm.refl _
    refine k_i C h hp (r_runS C h hp (As := [.int d, .int 0, .int 1000]) (rest := [.ref (ad 0)]) (m_isIn l G d 0 1000) (va_cwS 3 C.1.1.2.2.2.2 gX10_value_X10_isIn rfl rfl rfl (by decide +kernel) ⟨Nat.le_of_ble_eq_true rfl, Nat.le_of_ble_eq_true rfl⟩) rfl hl.1 (Nat.le_of_ble_eq_true rfl) dX10_value_20 ⟨Nat.le_of_ble_eq_true rfl, Nat.le_of_ble_eq_true rfl⟩) (fun r_4 u_5 H locs hw_6 h => ?_)
    have h : gS G A s (mW G ad I F rw gd gl) H locs := h
    refine W.widen (k := 0) (n := 0) (Nat.le_of_ble_eq_true rfl) (Nat.le_of_ble_eq_true rfl) ?_
    subst hw_6
    refine lv_if_eq (tgt := 41) hx hb dX10_value_23 (by decide) (fun c_23 => ?_) (fun c_23 => ?_)
    · refine lv_iconst (v := 1) hx hb dX10_value_41 (by decide) ?_
      refine r_put C h 0 rfl (Cn := RX10) (T := TX10) (N := 50) rfl hinX10 tyX10 tyX10_ok nmX10 0 (by decide) (index := 106) (ref := "ScaleHouseModel") wd1 rfl rfl (v := .int 1) rfl rfl (show 0 < 50 by decide) dX10_value_42 (fun H locs h => ?_)
      have h : gS G A s (mW G ad (upd I 0 1) F rw gd gl) H locs := h
      refine lv_aload_n hx hb dX10_value_45 rfl (lv_at hl 0 rfl) ?_
      refine r_get C h 0 rfl (Cn := RX10) (T := TX10) (N := 50) rfl hinX10 0 (by decide) (index := 106) (ref := "ScaleHouseModel") wd1 rfl (v := .int 1) rfl dX10_value_46 ?_
      refine lv_if_le (tgt := 56) hx hb dX10_value_49 (by decide) (fun c_49 => ?_) (fun c_49 => ?_)
      · exact absurd c_49 (by decide)
      · refine lv_lconst (v := 0) hx hb dX10_value_52 (by decide) ?_
        refine lv_goto (tgt := 63) hx hb dX10_value_53 (by decide) ?_
        have hs : mVok (I 25) x d lq = 0 := by simp only [mVok, if_neg c_12, if_pos c_23]
        exact r_lret C h hr hlk (Nat.zero_le _) (Nat.zero_le _) ((upd I 0 1), rw, gd, gl) (⟨fun _ => jk_rf _, fun z => absurd (z.symm.trans hs) (by decide)⟩) (rfl) dX10_value_63
    · refine lv_iload_n hx hb dX10_value_26 rfl (lv_at hl 3 rfl) ?_
      refine lv_iconst (v := 0) hx hb dX10_value_27 (by decide) ?_
      refine lv_sipush (v := 1000) hx hb dX10_value_28 (by decide) ?_
      have hp : List.Perm (mW G ad I F rw gd gl : va_W) ([] ++ ([((ad 0), .inr (10, [.int (I 0), .ref (ad 1), .ref (ad 2), .ref (ad 3), .ref (ad 4), .ref (ad 5), .ref (ad 6), .ref (ad 7), .ref (ad 8), .ref (ad 9), .ref (ad 10), .ref (ad 11), .ref (ad 12), .ref (ad 13), .ref (ad 14), .ref (ad 15), .ref (ad 16), .ref (ad 17), .ref (ad 18), .ref (ad 19), .ref (ad 20), .ref (ad 21), .ref (ad 22), .int (I 23), .int (I 24), .int (I 25), .int (I 26), .int (I 27), .int (I 28), .int (I 29), .ref rw, .int (I 31), .int (I 32), .int (I 33), .int (I 34), .int (I 35), .long gd, .long gl, .ref (ad 38), .ref (ad 39), .ref (ad 40), .ref (ad 41), .ref (ad 42), .ref (ad 43), .int (I 44), .int (I 45), .int (I 46), .int (I 47), .int (I 48), .int (I 49)])), ((ad 1), .inl (G.2.2 0, 120, .inl (F 1))), ((ad 2), .inl (G.2.2 0, 2400, .inl (F 2))), ((ad 3), .inl (G.2.2 1, 20, .inl (F 3))), ((ad 4), .inl (G.2.2 1, 20, .inl (F 4))), ((ad 5), .inl (G.2.2 1, 20, .inl (F 5))), ((ad 6), .inl (G.2.2 1, 60, .inl (F 6))), ((ad 7), .inl (G.2.2 1, 60, .inl (F 7))), ((ad 8), .inl (G.2.2 1, 60, .inl (F 8))), ((ad 9), .inl (G.2.2 1, 60, .inl (F 9))), ((ad 10), .inl (G.2.2 1, 100, .inl (F 10))), ((ad 11), .inl (G.2.2 1, 100, .inl (F 11))), ((ad 12), .inl (G.2.2 1, 100, .inl (F 12))), ((ad 13), .inl (G.2.2 1, 100, .inl (F 13))), ((ad 14), .inl (G.2.2 1, 100, .inl (F 14))), ((ad 15), .inl (G.2.2 1, 100, .inl (F 15))), ((ad 16), .inl (G.2.2 1, 100, .inl (F 16))), ((ad 17), .inl (G.2.2 1, 100, .inl (F 17))), ((ad 18), .inl (G.2.2 1, 100, .inl (F 18))), ((ad 19), .inl (G.2.2 1, 6, .inl (F 19))), ((ad 20), .inl (G.2.2 1, 20000, .inl (F 20))), ((ad 21), .inl (G.2.2 1, 20000, .inl (F 21))), ((ad 22), .inl (G.2.2 1, 20000, .inl (F 22))), ((ad 38), .inl (G.2.2 1, 40, .inl (F 38))), ((ad 39), .inl (G.2.2 1, 40, .inl (F 39))), ((ad 40), .inl (G.2.2 1, 2, .inl (F 40))), ((ad 41), .inl (G.2.2 1, 20, .inl (F 41))), ((ad 42), .inl (G.2.2 3, 20, .inl (F 42))), ((ad 43), .inl (G.2.2 3, 20, .inl (F 43)))])) := List.Perm.refl _
      refine k_i C h hp (r_runS C h hp (As := [.int lq, .int 0, .int 1000]) (rest := [.ref (ad 0)]) (m_isIn l G lq 0 1000) (va_cwS 3 C.1.1.2.2.2.2 gX10_value_X10_isIn rfl rfl rfl (by decide +kernel) ⟨Nat.le_of_ble_eq_true rfl, Nat.le_of_ble_eq_true rfl⟩) rfl hl.1 (Nat.le_of_ble_eq_true rfl) dX10_value_31 ⟨Nat.le_of_ble_eq_true rfl, Nat.le_of_ble_eq_true rfl⟩) (fun r_7 u_8 H locs hw_9 h => ?_)
      have h : gS G A s (mW G ad I F rw gd gl) H locs := h
      refine W.widen (k := 0) (n := 0) (Nat.le_of_ble_eq_true rfl) (Nat.le_of_ble_eq_true rfl) ?_
      subst hw_9
      refine lv_if_eq (tgt := 41) hx hb dX10_value_34 (by decide) (fun c_34 => ?_) (fun c_34 => ?_)
      · refine lv_iconst (v := 1) hx hb dX10_value_41 (by decide) ?_
        refine r_put C h 0 rfl (Cn := RX10) (T := TX10) (N := 50) rfl hinX10 tyX10 tyX10_ok nmX10 0 (by decide) (index := 106) (ref := "ScaleHouseModel") wd1 rfl rfl (v := .int 1) rfl rfl (show 0 < 50 by decide) dX10_value_42 (fun H locs h => ?_)
        have h : gS G A s (mW G ad (upd I 0 1) F rw gd gl) H locs := h
        refine lv_aload_n hx hb dX10_value_45 rfl (lv_at hl 0 rfl) ?_
        refine r_get C h 0 rfl (Cn := RX10) (T := TX10) (N := 50) rfl hinX10 0 (by decide) (index := 106) (ref := "ScaleHouseModel") wd1 rfl (v := .int 1) rfl dX10_value_46 ?_
        refine lv_if_le (tgt := 56) hx hb dX10_value_49 (by decide) (fun c_49 => ?_) (fun c_49 => ?_)
        · exact absurd c_49 (by decide)
        · refine lv_lconst (v := 0) hx hb dX10_value_52 (by decide) ?_
          refine lv_goto (tgt := 63) hx hb dX10_value_53 (by decide) ?_
          have hs : mVok (I 25) x d lq = 0 := by simp only [mVok, if_neg c_12, if_neg c_23, if_pos c_34]
          exact r_lret C h hr hlk (Nat.zero_le _) (Nat.zero_le _) ((upd I 0 1), rw, gd, gl) (⟨fun _ => jk_rf _, fun z => absurd (z.symm.trans hs) (by decide)⟩) (rfl) dX10_value_63
      · refine lv_iconst (v := 0) hx hb dX10_value_37 (by decide) ?_
        refine lv_goto (tgt := 42) hx hb dX10_value_38 (by decide) ?_
        refine r_put C h 0 rfl (Cn := RX10) (T := TX10) (N := 50) rfl hinX10 tyX10 tyX10_ok nmX10 0 (by decide) (index := 106) (ref := "ScaleHouseModel") wd1 rfl rfl (v := .int 0) rfl rfl (show 0 < 50 by decide) dX10_value_42 (fun H locs h => ?_)
        have h : gS G A s (mW G ad (upd I 0 0) F rw gd gl) H locs := h
        refine lv_aload_n hx hb dX10_value_45 rfl (lv_at hl 0 rfl) ?_
        refine r_get C h 0 rfl (Cn := RX10) (T := TX10) (N := 50) rfl hinX10 0 (by decide) (index := 106) (ref := "ScaleHouseModel") wd1 rfl (v := .int 0) rfl dX10_value_46 ?_
        refine lv_if_le (tgt := 56) hx hb dX10_value_49 (by decide) (fun c_49 => ?_) (fun c_49 => ?_)
        · obtain ⟨k, hk, ek⟩ := mIn_k (by rw [← hn]; exact c_12) (by omega)
          refine lv_aload_n hx hb dX10_value_56 rfl (lv_at hl 0 rfl) ?_
          refine lv_iload_n hx hb dX10_value_57 rfl (lv_at hl 1 rfl) ?_
          refine lv_cgi (y := (nI k)) (ek) ?_
          refine lv_iload_n hx hb dX10_value_58 rfl (lv_at hl 2 rfl) ?_
          refine lv_iload_n hx hb dX10_value_59 rfl (lv_at hl 3 rfl) ?_
          have hp : List.Perm (mW G ad (upd I 0 0) F rw gd gl : va_W) ([((ad 0), .inr (10, [.int 0, .ref (ad 1), .ref (ad 2), .ref (ad 3), .ref (ad 4), .ref (ad 5), .ref (ad 6), .ref (ad 7), .ref (ad 8), .ref (ad 9), .ref (ad 10), .ref (ad 11), .ref (ad 12), .ref (ad 13), .ref (ad 14), .ref (ad 15), .ref (ad 16), .ref (ad 17), .ref (ad 18), .ref (ad 19), .ref (ad 20), .ref (ad 21), .ref (ad 22), .int (I 23), .int (I 24), .int (I 25), .int (I 26), .int (I 27), .int (I 28), .int (I 29), .ref rw, .int (I 31), .int (I 32), .int (I 33), .int (I 34), .int (I 35), .long gd, .long gl, .ref (ad 38), .ref (ad 39), .ref (ad 40), .ref (ad 41), .ref (ad 42), .ref (ad 43), .int (I 44), .int (I 45), .int (I 46), .int (I 47), .int (I 48), .int (I 49)])), ((ad 1), .inl (G.2.2 0, 120, .inl (F 1))), ((ad 2), .inl (G.2.2 0, 2400, .inl (F 2))), ((ad 3), .inl (G.2.2 1, 20, .inl (F 3))), ((ad 4), .inl (G.2.2 1, 20, .inl (F 4))), ((ad 5), .inl (G.2.2 1, 20, .inl (F 5))), ((ad 6), .inl (G.2.2 1, 60, .inl (F 6))), ((ad 7), .inl (G.2.2 1, 60, .inl (F 7))), ((ad 8), .inl (G.2.2 1, 60, .inl (F 8))), ((ad 9), .inl (G.2.2 1, 60, .inl (F 9))), ((ad 10), .inl (G.2.2 1, 100, .inl (F 10))), ((ad 11), .inl (G.2.2 1, 100, .inl (F 11))), ((ad 12), .inl (G.2.2 1, 100, .inl (F 12))), ((ad 13), .inl (G.2.2 1, 100, .inl (F 13))), ((ad 14), .inl (G.2.2 1, 100, .inl (F 14))), ((ad 15), .inl (G.2.2 1, 100, .inl (F 15))), ((ad 16), .inl (G.2.2 1, 100, .inl (F 16))), ((ad 17), .inl (G.2.2 1, 100, .inl (F 17))), ((ad 18), .inl (G.2.2 1, 100, .inl (F 18))), ((ad 19), .inl (G.2.2 1, 6, .inl (F 19))), ((ad 20), .inl (G.2.2 1, 20000, .inl (F 20))), ((ad 21), .inl (G.2.2 1, 20000, .inl (F 21))), ((ad 22), .inl (G.2.2 1, 20000, .inl (F 22))), ((ad 38), .inl (G.2.2 1, 40, .inl (F 38))), ((ad 39), .inl (G.2.2 1, 40, .inl (F 39))), ((ad 40), .inl (G.2.2 1, 2, .inl (F 40))), ((ad 41), .inl (G.2.2 1, 20, .inl (F 41))), ((ad 42), .inl (G.2.2 3, 20, .inl (F 42))), ((ad 43), .inl (G.2.2 3, 20, .inl (F 43)))] ++ []) := pm 29 rfl [0, 1, 2, 3, 4, 5, 6, 7, 8, 9, 10, 11, 12, 13, 14, 15, 16, 17, 18, 19, 20, 21, 22, 23, 24, 25, 26, 27, 28] (by decide +kernel) rfl
          refine k_l C h hp (r_runV C h hp 0 rfl rfl (As := [.int (nI k), .int d, .int lq]) (rest := []) (m_lawValue l G ad (upd I 0 0) F rw gd gl k nl L hL (by omega) hnl d lq) (cwV 3 C.1.1.2.2.2.2 gX10_value_X10_lawValue rfl rfl rfl (by decide +kernel) ⟨by simp only [gR]; omega, by simp only [gR]; omega⟩) rfl hl.1 (Nat.le_of_ble_eq_true rfl) dX10_value_60 ⟨Nat.le_of_ble_eq_true rfl, Nat.le_of_ble_eq_true rfl⟩) (fun v2 u2 H locs hwu2 h => ?_)
          have h : gS G A s (mW G ad u2.1 F u2.2.1 u2.2.2.1 u2.2.2.2) H locs := h
          refine W.widen (k := 0) (n := 0) (Nat.le_of_ble_eq_true rfl) (Nat.le_of_ble_eq_true rfl) ?_
          obtain ⟨ev2, hju2⟩ := hwu2
          subst ev2
          have hs : mVok (I 25) x d lq = 1 := by simp only [mVok, if_neg c_12, if_neg c_23, if_neg c_34]
          exact r_lret C h hr hlk (Nat.zero_le _) (Nat.zero_le _) (u2.1, u2.2.1, u2.2.2.1, u2.2.2.2) (⟨fun z => absurd (hs.symm.trans z) (by decide), fun _ => ⟨hju2, fun k9 hk9 e9 => by rw [show k9 = k from nI_inj2 (e9.symm.trans ek) (by omega) (by omega)]⟩⟩) (rfl) dX10_value_63
        · exact absurd c_49 (by decide)

def mForce (I : Nat → Int32) (F : Nat → Nat → Int32) (n : Nat) (dy q : Int32) : Int32 × (Nat → Int32) :=
  if (mLater dy) = 0 then ((-1), (upd I 0 0))
  else if (mKnown (upd I 0 0) q) = 0 then ((-1), (upd I 0 0))
    else ((mFo (F 4) (F 5) dy q n 0 (-1)), (upd I 0 0))
set_option maxHeartbeats 4000000 in
set_option maxRecDepth 100000 in
theorem m_force (l : Launch) (G : gG) (ad : Nat → Nat) (I : Nat → Int32) (F : Nat → Nat → Int32) (rw : Nat) (gd gl : Int64) (n : Nat) (hn : I 25 = nI n) (hn2 : n ≤ 20) (dy q : Int32) : cM l yX10_force wsX10_force 2 60 (0) (0) G [.ref (ad 0), .int dy, .int q] (mW G ad I F rw gd gl) (qI G (S := Unit) (fun r _ => r = (mForce I F n dy q).1) (fun _ => mW G ad ((mForce I F n dy q).2) F rw gd gl)) := by
  refine o_M (cc := cX10_force) (maxL := 3) (ret := (some .int)) (own := RX10) (by decide +kernel) rfl rfl (Nat.le_of_ble_eq_true rfl) ?_
  intro p e s m below meth c A ls H locs hA C h hr hlk hnm hl
  have hx := C.1.1.1
  have hb := C.1.1.2.1
  have hl : lv_has ls 3 [(0, .ref (ad 0)), (1, .int dy), (2, .int q)] := hl
  have wd0 : Cond.fieldLink RX10 106 "ScaleHouseModel" "thrown" "I" ∈ wsX10_force := by decide +kernel
  have hinX10 : ∀ w ∈ wsX100, w ∈ wsX10_force := fun _ h => List.mem_cons_of_mem _ (List.mem_append_right _ h)
  refine lv_aload_n hx hb dX10_force_0 rfl (lv_at hl 0 rfl) ?_
  refine lv_iconst (v := 0) hx hb dX10_force_1 (by decide) ?_
  refine r_put C h 0 rfl (Cn := RX10) (T := TX10) (N := 50) rfl hinX10 tyX10 tyX10_ok nmX10 0 (by decide) (index := 106) (ref := "ScaleHouseModel") wd0 rfl rfl (v := .int 0) rfl rfl (show 0 < 50 by decide) dX10_force_2 (fun H locs h => ?_)
  have h : gS G A s (mW G ad (upd I 0 0) F rw gd gl) H locs := h
  refine lv_iload_n hx hb dX10_force_5 rfl (lv_at hl 1 rfl) ?_
  have hp : List.Perm (mW G ad (upd I 0 0) F rw gd gl : va_W) ([] ++ ([((ad 0), .inr (10, [.int 0, .ref (ad 1), .ref (ad 2), .ref (ad 3), .ref (ad 4), .ref (ad 5), .ref (ad 6), .ref (ad 7), .ref (ad 8), .ref (ad 9), .ref (ad 10), .ref (ad 11), .ref (ad 12), .ref (ad 13), .ref (ad 14), .ref (ad 15), .ref (ad 16), .ref (ad 17), .ref (ad 18), .ref (ad 19), .ref (ad 20), .ref (ad 21), .ref (ad 22), .int (I 23), .int (I 24), .int (I 25), .int (I 26), .int (I 27), .int (I 28), .int (I 29), .ref rw, .int (I 31), .int (I 32), .int (I 33), .int (I 34), .int (I 35), .long gd, .long gl, .ref (ad 38), .ref (ad 39), .ref (ad 40), .ref (ad 41), .ref (ad 42), .ref (ad 43), .int (I 44), .int (I 45), .int (I 46), .int (I 47), .int (I 48), .int (I 49)])), ((ad 1), .inl (G.2.2 0, 120, .inl (F 1))), ((ad 2), .inl (G.2.2 0, 2400, .inl (F 2))), ((ad 3), .inl (G.2.2 1, 20, .inl (F 3))), ((ad 4), .inl (G.2.2 1, 20, .inl (F 4))), ((ad 5), .inl (G.2.2 1, 20, .inl (F 5))), ((ad 6), .inl (G.2.2 1, 60, .inl (F 6))), ((ad 7), .inl (G.2.2 1, 60, .inl (F 7))), ((ad 8), .inl (G.2.2 1, 60, .inl (F 8))), ((ad 9), .inl (G.2.2 1, 60, .inl (F 9))), ((ad 10), .inl (G.2.2 1, 100, .inl (F 10))), ((ad 11), .inl (G.2.2 1, 100, .inl (F 11))), ((ad 12), .inl (G.2.2 1, 100, .inl (F 12))), ((ad 13), .inl (G.2.2 1, 100, .inl (F 13))), ((ad 14), .inl (G.2.2 1, 100, .inl (F 14))), ((ad 15), .inl (G.2.2 1, 100, .inl (F 15))), ((ad 16), .inl (G.2.2 1, 100, .inl (F 16))), ((ad 17), .inl (G.2.2 1, 100, .inl (F 17))), ((ad 18), .inl (G.2.2 1, 100, .inl (F 18))), ((ad 19), .inl (G.2.2 1, 6, .inl (F 19))), ((ad 20), .inl (G.2.2 1, 20000, .inl (F 20))), ((ad 21), .inl (G.2.2 1, 20000, .inl (F 21))), ((ad 22), .inl (G.2.2 1, 20000, .inl (F 22))), ((ad 38), .inl (G.2.2 1, 40, .inl (F 38))), ((ad 39), .inl (G.2.2 1, 40, .inl (F 39))), ((ad 40), .inl (G.2.2 1, 2, .inl (F 40))), ((ad 41), .inl (G.2.2 1, 20, .inl (F 41))), ((ad 42), .inl (G.2.2 3, 20, .inl (F 42))), ((ad 43), .inl (G.2.2 3, 20, .inl (F 43)))])) := List.Perm.refl _
  refine k_i C h hp (r_runS C h hp (As := [.int dy]) (rest := []) (m_isLaterDay l G dy) (va_cwS 1 C.1.1.2.2.2.2 gX10_force_X10_isLaterDay rfl rfl rfl (by decide +kernel) ⟨Nat.le_of_ble_eq_true rfl, Nat.le_of_ble_eq_true rfl⟩) rfl hl.1 (Nat.le_of_ble_eq_true rfl) dX10_force_6 ⟨Nat.le_of_ble_eq_true rfl, Nat.le_of_ble_eq_true rfl⟩) (fun r_1 u_2 H locs hw_3 h => ?_)
  have h : gS G A s (mW G ad (upd I 0 0) F rw gd gl) H locs := h
  refine W.widen (k := 0) (n := 0) (Nat.le_of_ble_eq_true rfl) (Nat.le_of_ble_eq_true rfl) ?_
  subst hw_3
  refine lv_if_eq (tgt := 29) hx hb dX10_force_9 (by decide) (fun c_9 => ?_) (fun c_9 => ?_)
  · refine lv_iconst (v := -1) hx hb dX10_force_29 (by decide) ?_
    have hs : (mForce I F n dy q) = ((-1), (upd I 0 0)) := by simp only [mForce, if_pos c_9]
    exact r_iret C h hr hlk (Nat.zero_le _) (Nat.zero_le _) () (by rw [hs] <;> rfl) (by rw [hs] <;> rfl) dX10_force_30
  · refine lv_aload_n hx hb dX10_force_12 rfl (lv_at hl 0 rfl) ?_
    refine lv_iload_n hx hb dX10_force_13 rfl (lv_at hl 2 rfl) ?_
    have hp : List.Perm (mW G ad (upd I 0 0) F rw gd gl : va_W) ([((ad 0), .inr (10, [.int 0, .ref (ad 1), .ref (ad 2), .ref (ad 3), .ref (ad 4), .ref (ad 5), .ref (ad 6), .ref (ad 7), .ref (ad 8), .ref (ad 9), .ref (ad 10), .ref (ad 11), .ref (ad 12), .ref (ad 13), .ref (ad 14), .ref (ad 15), .ref (ad 16), .ref (ad 17), .ref (ad 18), .ref (ad 19), .ref (ad 20), .ref (ad 21), .ref (ad 22), .int (I 23), .int (I 24), .int (I 25), .int (I 26), .int (I 27), .int (I 28), .int (I 29), .ref rw, .int (I 31), .int (I 32), .int (I 33), .int (I 34), .int (I 35), .long gd, .long gl, .ref (ad 38), .ref (ad 39), .ref (ad 40), .ref (ad 41), .ref (ad 42), .ref (ad 43), .int (I 44), .int (I 45), .int (I 46), .int (I 47), .int (I 48), .int (I 49)])), ((ad 1), .inl (G.2.2 0, 120, .inl (F 1))), ((ad 2), .inl (G.2.2 0, 2400, .inl (F 2))), ((ad 3), .inl (G.2.2 1, 20, .inl (F 3))), ((ad 4), .inl (G.2.2 1, 20, .inl (F 4))), ((ad 5), .inl (G.2.2 1, 20, .inl (F 5))), ((ad 6), .inl (G.2.2 1, 60, .inl (F 6))), ((ad 7), .inl (G.2.2 1, 60, .inl (F 7))), ((ad 8), .inl (G.2.2 1, 60, .inl (F 8))), ((ad 9), .inl (G.2.2 1, 60, .inl (F 9))), ((ad 10), .inl (G.2.2 1, 100, .inl (F 10))), ((ad 11), .inl (G.2.2 1, 100, .inl (F 11))), ((ad 12), .inl (G.2.2 1, 100, .inl (F 12))), ((ad 13), .inl (G.2.2 1, 100, .inl (F 13))), ((ad 14), .inl (G.2.2 1, 100, .inl (F 14))), ((ad 15), .inl (G.2.2 1, 100, .inl (F 15))), ((ad 16), .inl (G.2.2 1, 100, .inl (F 16))), ((ad 17), .inl (G.2.2 1, 100, .inl (F 17))), ((ad 18), .inl (G.2.2 1, 100, .inl (F 18))), ((ad 19), .inl (G.2.2 1, 6, .inl (F 19))), ((ad 20), .inl (G.2.2 1, 20000, .inl (F 20))), ((ad 21), .inl (G.2.2 1, 20000, .inl (F 21))), ((ad 22), .inl (G.2.2 1, 20000, .inl (F 22))), ((ad 38), .inl (G.2.2 1, 40, .inl (F 38))), ((ad 39), .inl (G.2.2 1, 40, .inl (F 39))), ((ad 40), .inl (G.2.2 1, 2, .inl (F 40))), ((ad 41), .inl (G.2.2 1, 20, .inl (F 41))), ((ad 42), .inl (G.2.2 3, 20, .inl (F 42))), ((ad 43), .inl (G.2.2 3, 20, .inl (F 43)))] ++ []) := pm 29 rfl [0, 1, 2, 3, 4, 5, 6, 7, 8, 9, 10, 11, 12, 13, 14, 15, 16, 17, 18, 19, 20, 21, 22, 23, 24, 25, 26, 27, 28] (by decide +kernel) rfl
    refine k_i C h hp (r_runV C h hp 0 rfl rfl (As := [.int q]) (rest := []) (m_isKnown l G ad (upd I 0 0) F rw gd gl q) (cwV 1 C.1.1.2.2.2.2 gX10_force_X10_isKnown rfl rfl rfl (by decide +kernel) ⟨Nat.le_of_ble_eq_true rfl, Nat.le_of_ble_eq_true rfl⟩) rfl hl.1 (Nat.le_of_ble_eq_true rfl) dX10_force_14 ⟨Nat.le_of_ble_eq_true rfl, Nat.le_of_ble_eq_true rfl⟩) (fun r_4 u_5 H locs hw_6 h => ?_)
    have h : gS G A s (mW G ad (upd I 0 0) F rw gd gl) H locs := h
    refine W.widen (k := 0) (n := 0) (Nat.le_of_ble_eq_true rfl) (Nat.le_of_ble_eq_true rfl) ?_
    subst hw_6
    refine lv_if_eq (tgt := 29) hx hb dX10_force_17 (by decide) (fun c_17 => ?_) (fun c_17 => ?_)
    · refine lv_iconst (v := -1) hx hb dX10_force_29 (by decide) ?_
      have hs : (mForce I F n dy q) = ((-1), (upd I 0 0)) := by simp only [mForce, if_neg c_9, if_pos c_17]
      exact r_iret C h hr hlk (Nat.zero_le _) (Nat.zero_le _) () (by rw [hs] <;> rfl) (by rw [hs] <;> rfl) dX10_force_30
    · refine lv_aload_n hx hb dX10_force_20 rfl (lv_at hl 0 rfl) ?_
      refine lv_iload_n hx hb dX10_force_21 rfl (lv_at hl 1 rfl) ?_
      refine lv_iload_n hx hb dX10_force_22 rfl (lv_at hl 2 rfl) ?_
      have hp : List.Perm (mW G ad (upd I 0 0) F rw gd gl : va_W) ([((ad 0), .inr (10, [.int 0, .ref (ad 1), .ref (ad 2), .ref (ad 3), .ref (ad 4), .ref (ad 5), .ref (ad 6), .ref (ad 7), .ref (ad 8), .ref (ad 9), .ref (ad 10), .ref (ad 11), .ref (ad 12), .ref (ad 13), .ref (ad 14), .ref (ad 15), .ref (ad 16), .ref (ad 17), .ref (ad 18), .ref (ad 19), .ref (ad 20), .ref (ad 21), .ref (ad 22), .int (I 23), .int (I 24), .int (I 25), .int (I 26), .int (I 27), .int (I 28), .int (I 29), .ref rw, .int (I 31), .int (I 32), .int (I 33), .int (I 34), .int (I 35), .long gd, .long gl, .ref (ad 38), .ref (ad 39), .ref (ad 40), .ref (ad 41), .ref (ad 42), .ref (ad 43), .int (I 44), .int (I 45), .int (I 46), .int (I 47), .int (I 48), .int (I 49)])), ((ad 1), .inl (G.2.2 0, 120, .inl (F 1))), ((ad 2), .inl (G.2.2 0, 2400, .inl (F 2))), ((ad 3), .inl (G.2.2 1, 20, .inl (F 3))), ((ad 4), .inl (G.2.2 1, 20, .inl (F 4))), ((ad 5), .inl (G.2.2 1, 20, .inl (F 5))), ((ad 6), .inl (G.2.2 1, 60, .inl (F 6))), ((ad 7), .inl (G.2.2 1, 60, .inl (F 7))), ((ad 8), .inl (G.2.2 1, 60, .inl (F 8))), ((ad 9), .inl (G.2.2 1, 60, .inl (F 9))), ((ad 10), .inl (G.2.2 1, 100, .inl (F 10))), ((ad 11), .inl (G.2.2 1, 100, .inl (F 11))), ((ad 12), .inl (G.2.2 1, 100, .inl (F 12))), ((ad 13), .inl (G.2.2 1, 100, .inl (F 13))), ((ad 14), .inl (G.2.2 1, 100, .inl (F 14))), ((ad 15), .inl (G.2.2 1, 100, .inl (F 15))), ((ad 16), .inl (G.2.2 1, 100, .inl (F 16))), ((ad 17), .inl (G.2.2 1, 100, .inl (F 17))), ((ad 18), .inl (G.2.2 1, 100, .inl (F 18))), ((ad 19), .inl (G.2.2 1, 6, .inl (F 19))), ((ad 20), .inl (G.2.2 1, 20000, .inl (F 20))), ((ad 21), .inl (G.2.2 1, 20000, .inl (F 21))), ((ad 22), .inl (G.2.2 1, 20000, .inl (F 22))), ((ad 38), .inl (G.2.2 1, 40, .inl (F 38))), ((ad 39), .inl (G.2.2 1, 40, .inl (F 39))), ((ad 40), .inl (G.2.2 1, 2, .inl (F 40))), ((ad 41), .inl (G.2.2 1, 20, .inl (F 41))), ((ad 42), .inl (G.2.2 3, 20, .inl (F 42))), ((ad 43), .inl (G.2.2 3, 20, .inl (F 43)))] ++ []) := pm 29 rfl [0, 1, 2, 3, 4, 5, 6, 7, 8, 9, 10, 11, 12, 13, 14, 15, 16, 17, 18, 19, 20, 21, 22, 23, 24, 25, 26, 27, 28] (by decide +kernel) rfl
      refine k_i C h hp (r_runV C h hp 0 rfl rfl (As := [.int dy, .int q]) (rest := []) (m_inForce l G ad (upd I 0 0) F rw gd gl n dy q hn hn2) (cwV 2 C.1.1.2.2.2.2 gX10_force_X10_inForce rfl rfl rfl (by decide +kernel) ⟨Nat.le_of_ble_eq_true rfl, Nat.le_of_ble_eq_true rfl⟩) rfl hl.1 (Nat.le_of_ble_eq_true rfl) dX10_force_23 ⟨Nat.le_of_ble_eq_true rfl, Nat.le_of_ble_eq_true rfl⟩) (fun r_7 u_8 H locs hw_9 h => ?_)
      have h : gS G A s (mW G ad (upd I 0 0) F rw gd gl) H locs := h
      refine W.widen (k := 0) (n := 0) (Nat.le_of_ble_eq_true rfl) (Nat.le_of_ble_eq_true rfl) ?_
      subst hw_9
      refine lv_goto (tgt := 30) hx hb dX10_force_26 (by decide) ?_
      have hs : (mForce I F n dy q) = ((mFo (F 4) (F 5) dy q n 0 (-1)), (upd I 0 0)) := by simp only [mForce, if_neg c_9, if_neg c_17]
      exact r_iret C h hr hlk (Nat.zero_le _) (Nat.zero_le _) () (by rw [hs] <;> rfl) (by rw [hs] <;> rfl) dX10_force_30

def mMo (F : Nat → Nat → Int32) (L : Nat → Nat) (d l : Int32) : Nat → Nat → Int32 → Int32
  | 0, _, t => t
  | r + 1, i, t => mMo F L d l r (i + 1) (if t = -1 then nI i else if mLv F L i d l ≤ mLv F L t.toNatClampNeg d l then t else nI i)

set_option maxHeartbeats 4000000 in
set_option maxRecDepth 100000 in
theorem lp_X10_most {p : Program} {l : Launch} {e : Env} {fr lo : Nat} {s : State} {m : MethodId} {args : Array Value} {below : List Frame} {meth : Method} {c : Code} {Q : State → Prop} {G : gG} {A : Nat → Prop} (C : gC p m c cX10_most 5 s args wsX10_most RX10 G A) (ad : Nat → Nat) (F : Nat → Nat → Int32) (I0 : Nat → Int32) (nl : Nat) (L : Nat → Nat) (d lq z : Int32) (hn : I0 25 = nI nl) (hL : mLs F nl L) (hnl : nl ≤ 20) (hlo : 1000 ≤ lo) (hfr : 89 ≤ fr) (kx : ∀ (I : Nat → Int32) (rw : Nat) (gd gl : Int64) (H : Heap) (locs : List Loc) (ls : Array Slot), jk I0 I → gS G A s (mW G ad I F rw gd gl) H locs → lv_has ls 5 [(3, .int z)] → W p l e (gR fr lo 0 0) s m args below meth c H locs 0 0 Q (F0 m 76 ls [])) :
    ∀ (r : Nat) (i : Nat) (t : Int32) (I : Nat → Int32) (rw : Nat) (gd gl : Int64) (H : Heap) (locs : List Loc) (ls : Array Slot), (i + r = nl) → (t = -1 ∨ ∃ j, j < i ∧ t = nI j) → (jk I0 I) → (mMo F L d lq r i t = z) →  gS G A s (mW G ad I F rw gd gl) H locs → lv_has ls 5 [(0, .ref (ad 0)), (1, .int d), (2, .int lq), (3, .int t), (4, .int (nI i))] → W p l e (gR fr lo 0 0) s m args below meth c H locs 0 0 Q (F0 m 34 ls []) := by
  have hx := C.1.1.1
  have hb := C.1.1.2.1
  have wd0 : Cond.fieldLink RX10 199 "ScaleHouseModel" "laws" "I" ∈ wsX10_most := by decide +kernel
  have hinX10 : ∀ w ∈ wsX100, w ∈ wsX10_most := fun _ h => List.mem_cons_of_mem _ (List.mem_append_right _ h)
  intro r
  induction r with
  | zero =>
    intro i t I rw gd gl H locs ls hi ht hj hz h hl
    refine lv_iload hx hb dX10_most_34 (lv_at hl 4 rfl) ?_
    refine lv_aload_n hx hb dX10_most_36 rfl (lv_at hl 0 rfl) ?_
    refine r_get C h 0 rfl (Cn := RX10) (T := TX10) (N := 50) rfl hinX10 25 (by decide) (index := 199) (ref := "ScaleHouseModel") wd0 rfl (v := .int (I 25)) rfl dX10_most_37 ?_
    refine lv_cgi (y := (nI nl)) (by rw [hj 25 (by decide), hn]) ?_
    refine lv_icmp_ge (tgt := 76) hx hb dX10_most_40 (by decide) (fun c_40 => ?_) (fun c_40 => ?_)
    · subst hz
      exact kx _ _ _ _ _ _ ls hj h (lv_sub hl [3] rfl)
    · exact absurd (by rw [show i = nl by omega]; exact Int32.le_refl _) c_40
  | succ r ih =>
    intro i t I rw gd gl H locs ls hi ht hj hz h hl
    refine lv_iload hx hb dX10_most_34 (lv_at hl 4 rfl) ?_
    refine lv_aload_n hx hb dX10_most_36 rfl (lv_at hl 0 rfl) ?_
    refine r_get C h 0 rfl (Cn := RX10) (T := TX10) (N := 50) rfl hinX10 25 (by decide) (index := 199) (ref := "ScaleHouseModel") wd0 rfl (v := .int (I 25)) rfl dX10_most_37 ?_
    refine lv_cgi (y := (nI nl)) (by rw [hj 25 (by decide), hn]) ?_
    refine lv_icmp_ge (tgt := 76) hx hb dX10_most_40 (by decide) (fun c_40 => ?_) (fun c_40 => ?_)
    · exact absurd c_40 (nI_ge (by omega) (by omega))
    · refine lv_iload_n hx hb dX10_most_43 rfl (lv_at hl 3 rfl) ?_
      refine lv_iconst (v := -1) hx hb dX10_most_44 (by decide) ?_
      refine lv_icmp_eq (tgt := 67) hx hb dX10_most_45 (by decide) (fun c_45 => ?_) (fun c_45 => ?_)
      · refine lv_iload hx hb dX10_most_67 (lv_at hl 4 rfl) ?_
        refine lv_istore_n (lv' := [(3, .int (nI i)), (0, .ref (ad 0)), (1, .int d), (2, .int lq), (4, .int (nI i))]) hx hb dX10_most_69 rfl hl (by decide) rfl (fun ls hl => ?_)
        refine lv_iinc (v := nI (i + 1)) (lv' := [(4, .int (nI (i + 1))), (3, .int (nI i)), (0, .ref (ad 0)), (1, .int d), (2, .int lq)]) hx hb dX10_most_70 hl (k := 4) rfl (nI_1 _) (by decide) rfl (fun ls hl => ?_)
        refine lv_goto (tgt := 34) hx hb dX10_most_73 (by decide) ?_
        exact ih (i + 1) (nI i) I rw gd gl _ _ ls (by omega) (Or.inr ⟨i, by omega, rfl⟩) (hj) (by rw [← hz, mMo]; simp only [if_pos c_45]) h (lv_sub hl [2, 3, 4, 1, 0] rfl)
      · obtain ⟨j, hjt, et⟩ := ht.resolve_left c_45
        refine lv_aload_n hx hb dX10_most_48 rfl (lv_at hl 0 rfl) ?_
        refine lv_iload hx hb dX10_most_49 (lv_at hl 4 rfl) ?_
        refine lv_iload_n hx hb dX10_most_51 rfl (lv_at hl 1 rfl) ?_
        refine lv_iload_n hx hb dX10_most_52 rfl (lv_at hl 2 rfl) ?_
        have hp : List.Perm (mW G ad I F rw gd gl : va_W) ([((ad 0), .inr (10, [.int (I 0), .ref (ad 1), .ref (ad 2), .ref (ad 3), .ref (ad 4), .ref (ad 5), .ref (ad 6), .ref (ad 7), .ref (ad 8), .ref (ad 9), .ref (ad 10), .ref (ad 11), .ref (ad 12), .ref (ad 13), .ref (ad 14), .ref (ad 15), .ref (ad 16), .ref (ad 17), .ref (ad 18), .ref (ad 19), .ref (ad 20), .ref (ad 21), .ref (ad 22), .int (I 23), .int (I 24), .int (I 25), .int (I 26), .int (I 27), .int (I 28), .int (I 29), .ref rw, .int (I 31), .int (I 32), .int (I 33), .int (I 34), .int (I 35), .long gd, .long gl, .ref (ad 38), .ref (ad 39), .ref (ad 40), .ref (ad 41), .ref (ad 42), .ref (ad 43), .int (I 44), .int (I 45), .int (I 46), .int (I 47), .int (I 48), .int (I 49)])), ((ad 1), .inl (G.2.2 0, 120, .inl (F 1))), ((ad 2), .inl (G.2.2 0, 2400, .inl (F 2))), ((ad 3), .inl (G.2.2 1, 20, .inl (F 3))), ((ad 4), .inl (G.2.2 1, 20, .inl (F 4))), ((ad 5), .inl (G.2.2 1, 20, .inl (F 5))), ((ad 6), .inl (G.2.2 1, 60, .inl (F 6))), ((ad 7), .inl (G.2.2 1, 60, .inl (F 7))), ((ad 8), .inl (G.2.2 1, 60, .inl (F 8))), ((ad 9), .inl (G.2.2 1, 60, .inl (F 9))), ((ad 10), .inl (G.2.2 1, 100, .inl (F 10))), ((ad 11), .inl (G.2.2 1, 100, .inl (F 11))), ((ad 12), .inl (G.2.2 1, 100, .inl (F 12))), ((ad 13), .inl (G.2.2 1, 100, .inl (F 13))), ((ad 14), .inl (G.2.2 1, 100, .inl (F 14))), ((ad 15), .inl (G.2.2 1, 100, .inl (F 15))), ((ad 16), .inl (G.2.2 1, 100, .inl (F 16))), ((ad 17), .inl (G.2.2 1, 100, .inl (F 17))), ((ad 18), .inl (G.2.2 1, 100, .inl (F 18))), ((ad 19), .inl (G.2.2 1, 6, .inl (F 19))), ((ad 20), .inl (G.2.2 1, 20000, .inl (F 20))), ((ad 21), .inl (G.2.2 1, 20000, .inl (F 21))), ((ad 22), .inl (G.2.2 1, 20000, .inl (F 22))), ((ad 38), .inl (G.2.2 1, 40, .inl (F 38))), ((ad 39), .inl (G.2.2 1, 40, .inl (F 39))), ((ad 40), .inl (G.2.2 1, 2, .inl (F 40))), ((ad 41), .inl (G.2.2 1, 20, .inl (F 41))), ((ad 42), .inl (G.2.2 3, 20, .inl (F 42))), ((ad 43), .inl (G.2.2 3, 20, .inl (F 43)))] ++ []) := pm 29 rfl [0, 1, 2, 3, 4, 5, 6, 7, 8, 9, 10, 11, 12, 13, 14, 15, 16, 17, 18, 19, 20, 21, 22, 23, 24, 25, 26, 27, 28] (by decide +kernel) rfl
        refine k_l C h hp (r_runV C h hp 0 rfl rfl (As := [.int (nI i), .int d, .int lq]) (rest := []) (m_lawValue l G ad I F rw gd gl i nl L hL (by omega) hnl d lq) (cwV 3 C.1.1.2.2.2.2 gX10_most_X10_lawValue rfl rfl rfl (by decide +kernel) ⟨by simp only [gR]; omega, by simp only [gR]; omega⟩) rfl hl.1 (Nat.le_of_ble_eq_true rfl) dX10_most_53 ⟨Nat.le_of_ble_eq_true rfl, Nat.le_of_ble_eq_true rfl⟩) (fun v1 u1 H locs hwu1 h => ?_)
        have h : gS G A s (mW G ad u1.1 F u1.2.1 u1.2.2.1 u1.2.2.2) H locs := h
        refine W.widen (k := 0) (n := 0) (Nat.le_of_ble_eq_true rfl) (Nat.le_of_ble_eq_true rfl) ?_
        obtain ⟨ev1, hju1⟩ := hwu1
        subst ev1
        refine lv_aload_n hx hb dX10_most_56 rfl (lv_at hl 0 rfl) ?_
        refine lv_iload_n hx hb dX10_most_57 rfl (lv_at hl 3 rfl) ?_
        refine lv_cgi (y := (nI j)) (et) ?_
        refine lv_iload_n hx hb dX10_most_58 rfl (lv_at hl 1 rfl) ?_
        refine lv_iload_n hx hb dX10_most_59 rfl (lv_at hl 2 rfl) ?_
        have hp : List.Perm (mW G ad u1.1 F u1.2.1 u1.2.2.1 u1.2.2.2 : va_W) ([((ad 0), .inr (10, [.int (u1.1 0), .ref (ad 1), .ref (ad 2), .ref (ad 3), .ref (ad 4), .ref (ad 5), .ref (ad 6), .ref (ad 7), .ref (ad 8), .ref (ad 9), .ref (ad 10), .ref (ad 11), .ref (ad 12), .ref (ad 13), .ref (ad 14), .ref (ad 15), .ref (ad 16), .ref (ad 17), .ref (ad 18), .ref (ad 19), .ref (ad 20), .ref (ad 21), .ref (ad 22), .int (u1.1 23), .int (u1.1 24), .int (u1.1 25), .int (u1.1 26), .int (u1.1 27), .int (u1.1 28), .int (u1.1 29), .ref u1.2.1, .int (u1.1 31), .int (u1.1 32), .int (u1.1 33), .int (u1.1 34), .int (u1.1 35), .long u1.2.2.1, .long u1.2.2.2, .ref (ad 38), .ref (ad 39), .ref (ad 40), .ref (ad 41), .ref (ad 42), .ref (ad 43), .int (u1.1 44), .int (u1.1 45), .int (u1.1 46), .int (u1.1 47), .int (u1.1 48), .int (u1.1 49)])), ((ad 1), .inl (G.2.2 0, 120, .inl (F 1))), ((ad 2), .inl (G.2.2 0, 2400, .inl (F 2))), ((ad 3), .inl (G.2.2 1, 20, .inl (F 3))), ((ad 4), .inl (G.2.2 1, 20, .inl (F 4))), ((ad 5), .inl (G.2.2 1, 20, .inl (F 5))), ((ad 6), .inl (G.2.2 1, 60, .inl (F 6))), ((ad 7), .inl (G.2.2 1, 60, .inl (F 7))), ((ad 8), .inl (G.2.2 1, 60, .inl (F 8))), ((ad 9), .inl (G.2.2 1, 60, .inl (F 9))), ((ad 10), .inl (G.2.2 1, 100, .inl (F 10))), ((ad 11), .inl (G.2.2 1, 100, .inl (F 11))), ((ad 12), .inl (G.2.2 1, 100, .inl (F 12))), ((ad 13), .inl (G.2.2 1, 100, .inl (F 13))), ((ad 14), .inl (G.2.2 1, 100, .inl (F 14))), ((ad 15), .inl (G.2.2 1, 100, .inl (F 15))), ((ad 16), .inl (G.2.2 1, 100, .inl (F 16))), ((ad 17), .inl (G.2.2 1, 100, .inl (F 17))), ((ad 18), .inl (G.2.2 1, 100, .inl (F 18))), ((ad 19), .inl (G.2.2 1, 6, .inl (F 19))), ((ad 20), .inl (G.2.2 1, 20000, .inl (F 20))), ((ad 21), .inl (G.2.2 1, 20000, .inl (F 21))), ((ad 22), .inl (G.2.2 1, 20000, .inl (F 22))), ((ad 38), .inl (G.2.2 1, 40, .inl (F 38))), ((ad 39), .inl (G.2.2 1, 40, .inl (F 39))), ((ad 40), .inl (G.2.2 1, 2, .inl (F 40))), ((ad 41), .inl (G.2.2 1, 20, .inl (F 41))), ((ad 42), .inl (G.2.2 3, 20, .inl (F 42))), ((ad 43), .inl (G.2.2 3, 20, .inl (F 43)))] ++ []) := pm 29 rfl [0, 1, 2, 3, 4, 5, 6, 7, 8, 9, 10, 11, 12, 13, 14, 15, 16, 17, 18, 19, 20, 21, 22, 23, 24, 25, 26, 27, 28] (by decide +kernel) rfl
        refine k_l C h hp (r_runV C h hp 0 rfl rfl (As := [.int (nI j), .int d, .int lq]) (rest := [.long (mLv F L i d lq)]) (m_lawValue l G ad u1.1 F u1.2.1 u1.2.2.1 u1.2.2.2 j nl L hL (by omega) hnl d lq) (cwV 3 C.1.1.2.2.2.2 gX10_most_X10_lawValue rfl rfl rfl (by decide +kernel) ⟨by simp only [gR]; omega, by simp only [gR]; omega⟩) rfl hl.1 (Nat.le_of_ble_eq_true rfl) dX10_most_60 ⟨Nat.le_of_ble_eq_true rfl, Nat.le_of_ble_eq_true rfl⟩) (fun v2 u2 H locs hwu2 h => ?_)
        have h : gS G A s (mW G ad u2.1 F u2.2.1 u2.2.2.1 u2.2.2.2) H locs := h
        refine W.widen (k := 0) (n := 0) (Nat.le_of_ble_eq_true rfl) (Nat.le_of_ble_eq_true rfl) ?_
        obtain ⟨ev2, hju2⟩ := hwu2
        subst ev2
        refine W.lcmp hx hb dX10_most_63 ?_
        refine lv_if_le (tgt := 70) hx hb dX10_most_64 (by decide) (fun c_64 => ?_) (fun c_64 => ?_)
        · rw [lg_cmp_le] at c_64
          have d64 : mLv F L i d lq ≤ mLv F L t.toNatClampNeg d lq := by rw [et, nI_clamp (by omega)]; exact c_64
          refine lv_iinc (v := nI (i + 1)) (lv' := [(4, .int (nI (i + 1))), (0, .ref (ad 0)), (1, .int d), (2, .int lq), (3, .int t)]) hx hb dX10_most_70 hl (k := 4) rfl (nI_1 _) (by decide) rfl (fun ls hl => ?_)
          refine lv_goto (tgt := 34) hx hb dX10_most_73 (by decide) ?_
          exact ih (i + 1) t u2.1 u2.2.1 u2.2.2.1 u2.2.2.2 _ _ ls (by omega) (ht.elim Or.inl (fun ⟨j, hj, e⟩ => Or.inr ⟨j, by omega, e⟩)) (jk_tr (jk_tr hj hju1) hju2) (by rw [← hz, mMo]; simp only [if_neg c_45, if_pos d64]) h (lv_sub hl [1, 2, 3, 4, 0] rfl)
        · rw [lg_cmp_le] at c_64
          have d64 : ¬ mLv F L i d lq ≤ mLv F L t.toNatClampNeg d lq := by rw [et, nI_clamp (by omega)]; exact c_64
          refine lv_iload hx hb dX10_most_67 (lv_at hl 4 rfl) ?_
          refine lv_istore_n (lv' := [(3, .int (nI i)), (0, .ref (ad 0)), (1, .int d), (2, .int lq), (4, .int (nI i))]) hx hb dX10_most_69 rfl hl (by decide) rfl (fun ls hl => ?_)
          refine lv_iinc (v := nI (i + 1)) (lv' := [(4, .int (nI (i + 1))), (3, .int (nI i)), (0, .ref (ad 0)), (1, .int d), (2, .int lq)]) hx hb dX10_most_70 hl (k := 4) rfl (nI_1 _) (by decide) rfl (fun ls hl => ?_)
          refine lv_goto (tgt := 34) hx hb dX10_most_73 (by decide) ?_
          exact ih (i + 1) (nI i) u2.1 u2.2.1 u2.2.2.1 u2.2.2.2 _ _ ls (by omega) (Or.inr ⟨i, by omega, rfl⟩) (jk_tr (jk_tr hj hju1) hju2) (by rw [← hz, mMo]; simp only [if_neg c_45, if_neg d64]) h (lv_sub hl [2, 3, 4, 1, 0] rfl)

def mMost (F : Nat → Nat → Int32) (nl : Nat) (L : Nat → Nat) (d lq : Int32) : Int32 := if mIn d 0 1000 = 0 then -1 else if mIn lq 0 1000 = 0 then -1 else mMo F L d lq nl 0 (-1)

set_option maxHeartbeats 4000000 in
set_option maxRecDepth 100000 in
theorem m_most (l : Launch) (G : gG) (ad : Nat → Nat) (I : Nat → Int32) (F : Nat → Nat → Int32) (rw : Nat) (gd gl : Int64) (nl : Nat) (L : Nat → Nat) (hn : I 25 = nI nl) (hL : mLs F nl L) (hnl : nl ≤ 20) (d lq : Int32) : cM l yX10_most wsX10_most 89 1000 (0) (0) G [.ref (ad 0), .int d, .int lq] (mW G ad I F rw gd gl) (qI G (S := (Nat → Int32) × Nat × Int64 × Int64) (fun r u => r = mMost F nl L d lq ∧ jk (upd I 0 0) u.1) (fun u => mW G ad u.1 F u.2.1 u.2.2.1 u.2.2.2)) := by
  refine o_M (cc := cX10_most) (maxL := 5) (ret := (some .int)) (own := RX10) (by decide +kernel) rfl rfl (Nat.le_of_ble_eq_true rfl) ?_
  intro p e s m below meth c A ls H locs hA C h hr hlk hnm hl
  have hx := C.1.1.1
  have hb := C.1.1.2.1
  have hl : lv_has ls 5 [(0, .ref (ad 0)), (1, .int d), (2, .int lq)] := hl
  have wd0 : Cond.fieldLink RX10 106 "ScaleHouseModel" "thrown" "I" ∈ wsX10_most := by decide +kernel
  have hinX10 : ∀ w ∈ wsX100, w ∈ wsX10_most := fun _ h => List.mem_cons_of_mem _ (List.mem_append_right _ h)
  refine lv_aload_n hx hb dX10_most_0 rfl (lv_at hl 0 rfl) ?_
  refine lv_iconst (v := 0) hx hb dX10_most_1 (by decide) ?_
  refine r_put C h 0 rfl (Cn := RX10) (T := TX10) (N := 50) rfl hinX10 tyX10 tyX10_ok nmX10 0 (by decide) (index := 106) (ref := "ScaleHouseModel") wd0 rfl rfl (v := .int 0) rfl rfl (show 0 < 50 by decide) dX10_most_2 (fun H locs h => ?_)
  have h : gS G A s (mW G ad (upd I 0 0) F rw gd gl) H locs := h
  refine lv_iload_n hx hb dX10_most_5 rfl (lv_at hl 1 rfl) ?_
  refine lv_iconst (v := 0) hx hb dX10_most_6 (by decide) ?_
  refine lv_sipush (v := 1000) hx hb dX10_most_7 (by decide) ?_
  have hp : List.Perm (mW G ad (upd I 0 0) F rw gd gl : va_W) ([] ++ ([((ad 0), .inr (10, [.int 0, .ref (ad 1), .ref (ad 2), .ref (ad 3), .ref (ad 4), .ref (ad 5), .ref (ad 6), .ref (ad 7), .ref (ad 8), .ref (ad 9), .ref (ad 10), .ref (ad 11), .ref (ad 12), .ref (ad 13), .ref (ad 14), .ref (ad 15), .ref (ad 16), .ref (ad 17), .ref (ad 18), .ref (ad 19), .ref (ad 20), .ref (ad 21), .ref (ad 22), .int (I 23), .int (I 24), .int (I 25), .int (I 26), .int (I 27), .int (I 28), .int (I 29), .ref rw, .int (I 31), .int (I 32), .int (I 33), .int (I 34), .int (I 35), .long gd, .long gl, .ref (ad 38), .ref (ad 39), .ref (ad 40), .ref (ad 41), .ref (ad 42), .ref (ad 43), .int (I 44), .int (I 45), .int (I 46), .int (I 47), .int (I 48), .int (I 49)])), ((ad 1), .inl (G.2.2 0, 120, .inl (F 1))), ((ad 2), .inl (G.2.2 0, 2400, .inl (F 2))), ((ad 3), .inl (G.2.2 1, 20, .inl (F 3))), ((ad 4), .inl (G.2.2 1, 20, .inl (F 4))), ((ad 5), .inl (G.2.2 1, 20, .inl (F 5))), ((ad 6), .inl (G.2.2 1, 60, .inl (F 6))), ((ad 7), .inl (G.2.2 1, 60, .inl (F 7))), ((ad 8), .inl (G.2.2 1, 60, .inl (F 8))), ((ad 9), .inl (G.2.2 1, 60, .inl (F 9))), ((ad 10), .inl (G.2.2 1, 100, .inl (F 10))), ((ad 11), .inl (G.2.2 1, 100, .inl (F 11))), ((ad 12), .inl (G.2.2 1, 100, .inl (F 12))), ((ad 13), .inl (G.2.2 1, 100, .inl (F 13))), ((ad 14), .inl (G.2.2 1, 100, .inl (F 14))), ((ad 15), .inl (G.2.2 1, 100, .inl (F 15))), ((ad 16), .inl (G.2.2 1, 100, .inl (F 16))), ((ad 17), .inl (G.2.2 1, 100, .inl (F 17))), ((ad 18), .inl (G.2.2 1, 100, .inl (F 18))), ((ad 19), .inl (G.2.2 1, 6, .inl (F 19))), ((ad 20), .inl (G.2.2 1, 20000, .inl (F 20))), ((ad 21), .inl (G.2.2 1, 20000, .inl (F 21))), ((ad 22), .inl (G.2.2 1, 20000, .inl (F 22))), ((ad 38), .inl (G.2.2 1, 40, .inl (F 38))), ((ad 39), .inl (G.2.2 1, 40, .inl (F 39))), ((ad 40), .inl (G.2.2 1, 2, .inl (F 40))), ((ad 41), .inl (G.2.2 1, 20, .inl (F 41))), ((ad 42), .inl (G.2.2 3, 20, .inl (F 42))), ((ad 43), .inl (G.2.2 3, 20, .inl (F 43)))])) := List.Perm.refl _
  refine k_i C h hp (r_runS C h hp (As := [.int d, .int 0, .int 1000]) (rest := []) (m_isIn l G d 0 1000) (va_cwS 3 C.1.1.2.2.2.2 gX10_most_X10_isIn rfl rfl rfl (by decide +kernel) ⟨Nat.le_of_ble_eq_true rfl, Nat.le_of_ble_eq_true rfl⟩) rfl hl.1 (Nat.le_of_ble_eq_true rfl) dX10_most_10 ⟨Nat.le_of_ble_eq_true rfl, Nat.le_of_ble_eq_true rfl⟩) (fun r_1 u_2 H locs hw_3 h => ?_)
  have h : gS G A s (mW G ad (upd I 0 0) F rw gd gl) H locs := h
  refine W.widen (k := 0) (n := 0) (Nat.le_of_ble_eq_true rfl) (Nat.le_of_ble_eq_true rfl) ?_
  subst hw_3
  refine lv_if_eq (tgt := 27) hx hb dX10_most_13 (by decide) (fun c_13 => ?_) (fun c_13 => ?_)
  · refine lv_iconst (v := -1) hx hb dX10_most_27 (by decide) ?_
    exact r_iret C h hr hlk (Nat.zero_le _) (Nat.zero_le _) ((upd I 0 0), rw, gd, gl) (⟨by simp only [mMost, if_pos c_13], jk_rf _⟩) (rfl) dX10_most_28
  · refine lv_iload_n hx hb dX10_most_16 rfl (lv_at hl 2 rfl) ?_
    refine lv_iconst (v := 0) hx hb dX10_most_17 (by decide) ?_
    refine lv_sipush (v := 1000) hx hb dX10_most_18 (by decide) ?_
    have hp : List.Perm (mW G ad (upd I 0 0) F rw gd gl : va_W) ([] ++ ([((ad 0), .inr (10, [.int 0, .ref (ad 1), .ref (ad 2), .ref (ad 3), .ref (ad 4), .ref (ad 5), .ref (ad 6), .ref (ad 7), .ref (ad 8), .ref (ad 9), .ref (ad 10), .ref (ad 11), .ref (ad 12), .ref (ad 13), .ref (ad 14), .ref (ad 15), .ref (ad 16), .ref (ad 17), .ref (ad 18), .ref (ad 19), .ref (ad 20), .ref (ad 21), .ref (ad 22), .int (I 23), .int (I 24), .int (I 25), .int (I 26), .int (I 27), .int (I 28), .int (I 29), .ref rw, .int (I 31), .int (I 32), .int (I 33), .int (I 34), .int (I 35), .long gd, .long gl, .ref (ad 38), .ref (ad 39), .ref (ad 40), .ref (ad 41), .ref (ad 42), .ref (ad 43), .int (I 44), .int (I 45), .int (I 46), .int (I 47), .int (I 48), .int (I 49)])), ((ad 1), .inl (G.2.2 0, 120, .inl (F 1))), ((ad 2), .inl (G.2.2 0, 2400, .inl (F 2))), ((ad 3), .inl (G.2.2 1, 20, .inl (F 3))), ((ad 4), .inl (G.2.2 1, 20, .inl (F 4))), ((ad 5), .inl (G.2.2 1, 20, .inl (F 5))), ((ad 6), .inl (G.2.2 1, 60, .inl (F 6))), ((ad 7), .inl (G.2.2 1, 60, .inl (F 7))), ((ad 8), .inl (G.2.2 1, 60, .inl (F 8))), ((ad 9), .inl (G.2.2 1, 60, .inl (F 9))), ((ad 10), .inl (G.2.2 1, 100, .inl (F 10))), ((ad 11), .inl (G.2.2 1, 100, .inl (F 11))), ((ad 12), .inl (G.2.2 1, 100, .inl (F 12))), ((ad 13), .inl (G.2.2 1, 100, .inl (F 13))), ((ad 14), .inl (G.2.2 1, 100, .inl (F 14))), ((ad 15), .inl (G.2.2 1, 100, .inl (F 15))), ((ad 16), .inl (G.2.2 1, 100, .inl (F 16))), ((ad 17), .inl (G.2.2 1, 100, .inl (F 17))), ((ad 18), .inl (G.2.2 1, 100, .inl (F 18))), ((ad 19), .inl (G.2.2 1, 6, .inl (F 19))), ((ad 20), .inl (G.2.2 1, 20000, .inl (F 20))), ((ad 21), .inl (G.2.2 1, 20000, .inl (F 21))), ((ad 22), .inl (G.2.2 1, 20000, .inl (F 22))), ((ad 38), .inl (G.2.2 1, 40, .inl (F 38))), ((ad 39), .inl (G.2.2 1, 40, .inl (F 39))), ((ad 40), .inl (G.2.2 1, 2, .inl (F 40))), ((ad 41), .inl (G.2.2 1, 20, .inl (F 41))), ((ad 42), .inl (G.2.2 3, 20, .inl (F 42))), ((ad 43), .inl (G.2.2 3, 20, .inl (F 43)))])) := List.Perm.refl _
    refine k_i C h hp (r_runS C h hp (As := [.int lq, .int 0, .int 1000]) (rest := []) (m_isIn l G lq 0 1000) (va_cwS 3 C.1.1.2.2.2.2 gX10_most_X10_isIn rfl rfl rfl (by decide +kernel) ⟨Nat.le_of_ble_eq_true rfl, Nat.le_of_ble_eq_true rfl⟩) rfl hl.1 (Nat.le_of_ble_eq_true rfl) dX10_most_21 ⟨Nat.le_of_ble_eq_true rfl, Nat.le_of_ble_eq_true rfl⟩) (fun r_4 u_5 H locs hw_6 h => ?_)
    have h : gS G A s (mW G ad (upd I 0 0) F rw gd gl) H locs := h
    refine W.widen (k := 0) (n := 0) (Nat.le_of_ble_eq_true rfl) (Nat.le_of_ble_eq_true rfl) ?_
    subst hw_6
    refine lv_if_ne (tgt := 29) hx hb dX10_most_24 (by decide) (fun c_24 => ?_) (fun c_24 => ?_)
    · refine lv_iconst (v := -1) hx hb dX10_most_29 (by decide) ?_
      refine lv_istore_n (lv' := [(3, .int (-1)), (0, .ref (ad 0)), (1, .int d), (2, .int lq)]) hx hb dX10_most_30 rfl hl (by decide) rfl (fun ls hl => ?_)
      refine lv_iconst (v := 0) hx hb dX10_most_31 (by decide) ?_
      refine lv_istore (lv' := [(4, .int 0), (3, .int (-1)), (0, .ref (ad 0)), (1, .int d), (2, .int lq)]) hx hb dX10_most_32 hl (by decide) rfl (fun ls hl => ?_)
      refine lp_X10_most C ad F (upd I 0 0) nl L d lq (mMo F L d lq nl 0 (-1)) hn hL hnl (by decide) (by decide) (fun I9 rw9 gd9 gl9 H locs ls hj h hl => ?_) nl 0 (-1) _ _ _ _ _ _ ls (by omega) (Or.inl rfl) (jk_rf _) rfl h (lv_sub hl [2, 3, 4, 1, 0] rfl)
      refine lv_iload_n hx hb dX10_most_76 rfl (lv_at hl 0 rfl) ?_
      exact r_iret C h hr hlk (Nat.zero_le _) (Nat.zero_le _) (I9, rw9, gd9, gl9) (⟨by simp only [mMost, if_neg c_13, if_neg c_24], hj⟩) (rfl) dX10_most_77
    · refine lv_iconst (v := -1) hx hb dX10_most_27 (by decide) ?_
      exact r_iret C h hr hlk (Nat.zero_le _) (Nat.zero_le _) ((upd I 0 0), rw, gd, gl) (⟨by simp only [mMost, if_neg c_13, if_pos c_24], jk_rf _⟩) (rfl) dX10_most_28
