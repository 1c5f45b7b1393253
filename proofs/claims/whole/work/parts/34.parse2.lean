/-! ===== the reference's parser: factors, products, sums ===== -/
abbrev PZ : Type := Nat ⊕ (Int64 × Nat)
def pQ (op : Nat) (Z : PZ) (r : Int64) (u : Int32 × Int32 × Int32) : Prop :=
  match Z with
  | .inl q => u.2.1 = nI q
  | .inr z => r = z.1 ∧ u = (nI z.2, -1, nI op)
/-- what is read ends behind its begin and within the text -/
def pB (n k : Nat) (Z : PZ) : Prop :=
  match Z with
  | .inl q => q ≤ n
  | .inr z => k ≤ z.2 ∧ z.2 ≤ n
theorem nI_ne_m1 {q : Nat} (h : q < 2 ^ 31) : ¬ nI q = -1 := by
  intro z
  have := congrArg Int32.toInt z
  rw [nI_toInt h, show (-1 : Int32).toInt = -1 from rfl] at this
  omega
theorem pQ_f {n k op : Nat} {Z : PZ} {r : Int64} {u : Int32 × Int32 × Int32} (h : pQ op Z r u) (c : ¬ u.2.1 = -1) : ∃ q, Z = .inl q ∧ u.2.1 = nI q := by
  rcases Z with q | z
  · exact ⟨q, rfl, h⟩
  · exact absurd (by rw [h.2]) c
theorem pQ_t {n k op : Nat} {Z : PZ} {r : Int64} {u : Int32 × Int32 × Int32} (h : pQ op Z r u) (b : pB n k Z) (hn : n < 2 ^ 31) (c : u.2.1 = -1) : ∃ k2, Z = .inr (r, k2) ∧ u = (nI k2, -1, nI op) ∧ k ≤ k2 ∧ k2 ≤ n := by
  rcases Z with q | ⟨v, k2⟩
  · have b : q ≤ n := b
    have h : u.2.1 = nI q := h
    exact absurd (h.symm.trans c) (nI_ne_m1 (by omega))
  · exact ⟨k2, by rw [h.1], h.2, b.1, b.2⟩
/-- digits: five at most -/
def pDl (t : Nat → Int32) (a n : Nat) : Nat → Int64 → Nat → PZ
  | 0, v, k => if mDg t a n k = 0 then .inr (v, k) else .inl k
  | r + 1, v, k => if mDg t a n k = 0 then .inr (v, k) else pDl t a n r (10 * v + (t (a + k)).toInt64 - 48) (k + 1)
def pFb (t : Nat → Int32) (a n : Nat) (Z : PZ) : PZ :=
  match Z with
  | .inl q => .inl q
  | .inr z => if lkV t a n (lk t a n z.2) = 41 then .inr (z.1, lk t a n z.2 + 1) else .inl (lk t a n z.2)
def pFj (t : Nat → Int32) (a n : Nat) (gd gl : Int64) (S : Nat → PZ) (j : Nat) : PZ :=
  if lkV t a n j = 100 then .inr (gd, j + 1) else if lkV t a n j = 108 then .inr (gl, j + 1)
  else if lkV t a n j = 40 then pFb t a n (S (j + 1))
  else if mDg t a n j = 0 then .inl j else pDl t a n 5 0 j
def pFa (t : Nat → Int32) (a n : Nat) (gd gl : Int64) (S : Nat → PZ) (k : Nat) : PZ := pFj t a n gd gl S (lk t a n k)
def pPl (t : Nat → Int32) (a n : Nat) (F : Nat → PZ) : Nat → Int64 → Nat → PZ
  | 0, v, k => .inr (v, k)
  | r + 1, v, k => if lkV t a n (lk t a n k) = 42 then (match F (lk t a n k + 1) with | .inl q => .inl q | .inr z => pPl t a n F r (bd (v * z.1)) z.2)
    else if lkV t a n (lk t a n k) = 47 then (match F (lk t a n k + 1) with | .inl q => .inl q | .inr z => pPl t a n F r (bd (if z.1 = 0 then 0 else fdv v z.1)) z.2)
    else .inr (v, lk t a n k)
def pPr (t : Nat → Int32) (a n : Nat) (F : Nat → PZ) (k : Nat) : PZ :=
  match F k with | .inl q => .inl q | .inr z => pPl t a n F (n + 1) z.1 z.2
def pSl (t : Nat → Int32) (a n : Nat) (F : Nat → PZ) : Nat → Int64 → Nat → PZ
  | 0, v, k => .inr (v, k)
  | r + 1, v, k => if lkV t a n (lk t a n k) = 43 then (match F (lk t a n k + 1) with | .inl q => .inl q | .inr z => pSl t a n F r (bd (v + z.1)) z.2)
    else if lkV t a n (lk t a n k) = 45 then (match F (lk t a n k + 1) with | .inl q => .inl q | .inr z => pSl t a n F r (bd (v - z.1)) z.2)
    else .inr (v, lk t a n k)
def pSu (t : Nat → Int32) (a n : Nat) (F : Nat → PZ) (k : Nat) : PZ :=
  match F k with | .inl q => .inl q | .inr z => pSl t a n F (n + 1) z.1 z.2
/-- sums, d brackets more may be opened (0: none may, and its own bracket was one too many) -/
def pS (t : Nat → Int32) (a n : Nat) (gd gl : Int64) : Nat → Nat → PZ
  | 0, k => .inl (k - 1)
  | d + 1, k => pSu t a n (pPr t a n (pFa t a n gd gl (pS t a n gd gl d))) k
theorem lkV_lt {t : Nat → Int32} {a n j : Nat} {x : Int32} (h : lkV t a n j = x) (hx : ¬ x = -1) : j < n := by
  unfold lkV at h
  split at h
  · assumption
  · exact absurd h.symm hx
theorem mDg_lt {t : Nat → Int32} {a n k : Nat} (h : ¬ mDg t a n k = 0) (hk : k ≤ n) (hn : n < 2 ^ 31) : k < n := by
  rcases Nat.lt_or_ge k n with z | z
  · exact z
  · exfalso
    apply h
    unfold mDg
    rw [if_pos (by rw [show k = n by omega]; exact Int32.le_refl _)]
theorem pDl_B (t : Nat → Int32) (a n : Nat) (hn : n < 2 ^ 31) : ∀ (r : Nat) (v : Int64) (k : Nat), k ≤ n → pB n k (pDl t a n r v k)
  | 0, v, k, hk => by
    rw [pDl]; split
    · exact ⟨Nat.le_refl _, hk⟩
    · exact hk
  | r + 1, v, k, hk => by
    rw [pDl]; split
    · exact ⟨Nat.le_refl _, hk⟩
    · next c =>
      have h1 := mDg_lt c hk hn
      have := pDl_B t a n hn r (10 * v + (t (a + k)).toInt64 - 48) (k + 1) h1
      revert this
      rcases pDl t a n r (10 * v + (t (a + k)).toInt64 - 48) (k + 1) with q | z
      · exact id
      · exact fun ⟨b1, b2⟩ => ⟨by omega, b2⟩
theorem pB_mono {n k j : Nat} {Z : PZ} (h : pB n j Z) (hk : k ≤ j) : pB n k Z := by
  rcases Z with q | z
  · exact h
  · exact ⟨Nat.le_trans hk h.1, h.2⟩
theorem pFa_B {t : Nat → Int32} {a n : Nat} {gd gl : Int64} {S : Nat → PZ} (hn : n < 2 ^ 31) (hS : ∀ k, k ≤ n → 1 ≤ k → pB n k (S k)) (k : Nat) (hk : k ≤ n) : pB n k (pFa t a n gd gl S k) := by
  have hg := lk_ge t a n k hk
  refine pB_mono (j := lk t a n k) ?_ hg.1
  unfold pFa
  generalize lk t a n k = j at hg ⊢
  unfold pFj
  split
  · next c => have := lkV_lt c (by decide); exact ⟨by show j ≤ j + 1; omega, this⟩
  split
  · next c => have := lkV_lt c (by decide); exact ⟨by show j ≤ j + 1; omega, this⟩
  split
  · next c =>
    have h1 := lkV_lt c (by decide)
    have h2 := hS (j + 1) h1 (by omega)
    revert h2
    rcases S (j + 1) with q | ⟨v, k2⟩
    · exact id
    · intro ⟨h3, h4⟩
      have h3 : j + 1 ≤ k2 := h3
      have h4 : k2 ≤ n := h4
      have h5 := lk_ge t a n k2 h4
      show pB n j (if lkV t a n (lk t a n k2) = 41 then .inr (v, lk t a n k2 + 1) else .inl (lk t a n k2))
      split
      · next c2 => have := lkV_lt c2 (by decide); exact ⟨by show j ≤ lk t a n k2 + 1; omega, this⟩
      · exact h5.2
  split
  · exact hg.2
  · exact pDl_B t a n hn 5 0 j hg.2
theorem pPl_B {t : Nat → Int32} {a n : Nat} {F : Nat → PZ} (hF : ∀ k, k ≤ n → pB n k (F k)) : ∀ (r : Nat) (v : Int64) (k : Nat), k ≤ n → pB n k (pPl t a n F r v k)
  | 0, v, k, hk => ⟨Nat.le_refl _, hk⟩
  | r + 1, v, k, hk => by
    rw [pPl]
    have hg := lk_ge t a n k hk
    generalize lk t a n k = j at hg ⊢
    split
    · next c =>
      have h1 := lkV_lt c (by decide)
      have h2 := hF (j + 1) h1
      revert h2
      rcases F (j + 1) with q | ⟨w, k2⟩
      · exact id
      · intro ⟨h3, h4⟩
        exact pB_mono (pPl_B hF r _ k2 h4) (by show k ≤ k2; have h3 : j + 1 ≤ k2 := h3; omega)
    split
    · next c =>
      have h1 := lkV_lt c (by decide)
      have h2 := hF (j + 1) h1
      revert h2
      rcases F (j + 1) with q | ⟨w, k2⟩
      · exact id
      · intro ⟨h3, h4⟩
        exact pB_mono (pPl_B hF r _ k2 h4) (by show k ≤ k2; have h3 : j + 1 ≤ k2 := h3; omega)
    · exact ⟨hg.1, hg.2⟩
theorem pSl_B {t : Nat → Int32} {a n : Nat} {F : Nat → PZ} (hF : ∀ k, k ≤ n → pB n k (F k)) : ∀ (r : Nat) (v : Int64) (k : Nat), k ≤ n → pB n k (pSl t a n F r v k)
  | 0, v, k, hk => ⟨Nat.le_refl _, hk⟩
  | r + 1, v, k, hk => by
    rw [pSl]
    have hg := lk_ge t a n k hk
    generalize lk t a n k = j at hg ⊢
    split
    · next c =>
      have h1 := lkV_lt c (by decide)
      have h2 := hF (j + 1) h1
      revert h2
      rcases F (j + 1) with q | ⟨w, k2⟩
      · exact id
      · intro ⟨h3, h4⟩
        exact pB_mono (pSl_B hF r _ k2 h4) (by show k ≤ k2; have h3 : j + 1 ≤ k2 := h3; omega)
    split
    · next c =>
      have h1 := lkV_lt c (by decide)
      have h2 := hF (j + 1) h1
      revert h2
      rcases F (j + 1) with q | ⟨w, k2⟩
      · exact id
      · intro ⟨h3, h4⟩
        exact pB_mono (pSl_B hF r _ k2 h4) (by show k ≤ k2; have h3 : j + 1 ≤ k2 := h3; omega)
    · exact ⟨hg.1, hg.2⟩
theorem pPr_B {t : Nat → Int32} {a n : Nat} {F : Nat → PZ} (hF : ∀ k, k ≤ n → pB n k (F k)) (k : Nat) (hk : k ≤ n) : pB n k (pPr t a n F k) := by
  have h := hF k hk
  unfold pPr
  revert h
  rcases F k with q | ⟨v, k2⟩
  · exact id
  · exact fun ⟨h1, h2⟩ => pB_mono (pPl_B hF (n + 1) v k2 h2) h1
theorem pSu_B {t : Nat → Int32} {a n : Nat} {F : Nat → PZ} (hF : ∀ k, k ≤ n → pB n k (F k)) (k : Nat) (hk : k ≤ n) : pB n k (pSu t a n F k) := by
  have h := hF k hk
  unfold pSu
  revert h
  rcases F k with q | ⟨v, k2⟩
  · exact id
  · exact fun ⟨h1, h2⟩ => pB_mono (pSl_B hF (n + 1) v k2 h2) h1
theorem pS_B {t : Nat → Int32} {a n : Nat} {gd gl : Int64} (hn : n < 2 ^ 31) : ∀ (d k : Nat), k ≤ n → 1 ≤ k ∨ 1 ≤ d → pB n k (pS t a n gd gl d k)
  | 0, k, hk, h1 => by show k - 1 ≤ n; omega
  | d + 1, k, hk, _ => pSu_B (fun k hk => pPr_B (fun k hk => pFa_B hn (fun k hk h1 => pS_B hn d k hk (Or.inl h1)) k hk) k hk) k hk

set_option maxHeartbeats 4000000 in
set_option maxRecDepth 100000 in
theorem lp_X10_factor {p : Program} {l : Launch} {e : Env} {s : State} {m : MethodId} {args : Array Value} {below : List Frame} {meth : Method} {c : Code} {Q : State → Prop} {G : gG} {A : Nat → Prop} (C : gC p m c cX10_factor 5 s args wsX10_factor RX10 G A) (ad : Nat → Nat) (I : Nat → Int32) (F : Nat → Nat → Int32) (rw : Nat) (gd gl : Int64) (N : Nat) (t : Nat → Int32) (a n : Nat) (hN : a + n ≤ N) (hN2 : N ≤ 2400) (fr lo op : Nat) (Z : PZ) (kx1 : ∀ (v : Int64) (k : Nat) (H : Heap) (locs : List Loc) (ls : Array Slot), Z = .inr (v, k) → gS G A s (pO G ad (upd (upd (upd (upd (upd I 31 (nI a)) 32 (nI n)) 33 (nI k)) 34 (-1)) 35 (nI op)) F rw gd gl N t) H locs → lv_has ls 5 [(2, .long v)] → W p l e (gR (fr + 1) (lo + 25) 0 0) s m args below meth c H locs 0 0 Q (F0 m 213 ls [])) (kx2 : ∀ (k : Nat) (H : Heap) (locs : List Loc) (ls : Array Slot), Z = .inl k → gS G A s (pO G ad (upd (upd (upd (upd (upd I 31 (nI a)) 32 (nI n)) 33 (nI k)) 34 (nI k)) 35 (nI op)) F rw gd gl N t) H locs → ls.size = 5 → W p l e (gR (fr + 1) (lo + 25) 0 0) s m args below meth c H locs 0 0 Q (F0 m 170 ls [.long 0])) :
    ∀ (r : Nat) (v : Int64) (dg k : Nat) (H : Heap) (locs : List Loc) (ls : Array Slot), (dg + r = 5) → (k ≤ n) → (pDl t a n r v k = Z) →  gS G A s (pO G ad (upd (upd (upd (upd (upd I 31 (nI a)) 32 (nI n)) 33 (nI k)) 34 (-1)) 35 (nI op)) F rw gd gl N t) H locs → lv_has ls 5 [(0, .ref (ad 0)), (2, .long v), (4, .int (nI dg))] → W p l e (gR (fr + 1) (lo + 25) 0 0) s m args below meth c H locs 0 0 Q (F0 m 153 ls []) := by
  have hx := C.1.1.1
  have hb := C.1.1.2.1
  have wd0 : Cond.constantLong RX10 170 (10) ∈ wsX10_factor := by decide +kernel
  have wd1 : Cond.fieldLink RX10 77 "ScaleHouseModel" "row" "[B" ∈ wsX10_factor := by decide +kernel
  have hinX10 : ∀ w ∈ wsX100, w ∈ wsX10_factor := fun _ h => List.mem_cons_of_mem _ (List.mem_append_right _ h)
  have wd2 : Cond.fieldLink RX10 126 "ScaleHouseModel" "rowFrom" "I" ∈ wsX10_factor := by decide +kernel
  have wd3 : Cond.fieldLink RX10 120 "ScaleHouseModel" "at" "I" ∈ wsX10_factor := by decide +kernel
  have wd4 : Cond.constantLong RX10 172 (48) ∈ wsX10_factor := by decide +kernel
  intro r
  induction r with
  | zero =>
    intro v dg k H locs ls hd hk hZ h hl
    refine lv_aload_n hx hb dX10_factor_153 rfl (lv_at hl 0 rfl) ?_
    have hp : List.Perm (pO G ad (upd (upd (upd (upd (upd I 31 (nI a)) 32 (nI n)) 33 (nI k)) 34 (-1)) 35 (nI op)) F rw gd gl N t : va_W) ([((ad 0), .inr (10, [.int (I 0), .ref (ad 1), .ref (ad 2), .ref (ad 3), .ref (ad 4), .ref (ad 5), .ref (ad 6), .ref (ad 7), .ref (ad 8), .ref (ad 9), .ref (ad 10), .ref (ad 11), .ref (ad 12), .ref (ad 13), .ref (ad 14), .ref (ad 15), .ref (ad 16), .ref (ad 17), .ref (ad 18), .ref (ad 19), .ref (ad 20), .ref (ad 21), .ref (ad 22), .int (I 23), .int (I 24), .int (I 25), .int (I 26), .int (I 27), .int (I 28), .int (I 29), .ref rw, .int (nI a), .int (nI n), .int (nI k), .int (-1), .int (nI op), .long gd, .long gl, .ref (ad 38), .ref (ad 39), .ref (ad 40), .ref (ad 41), .ref (ad 42), .ref (ad 43), .int (I 44), .int (I 45), .int (I 46), .int (I 47), .int (I 48), .int (I 49)])), (rw, .inl (G.2.2 0, N, .inl t))] ++ []) := pm 2 rfl [0, 1] (by decide +kernel) rfl
    refine k_i C h hp (r_runV C h hp 0 rfl rfl (As := []) (rest := []) (m_isDigit l G ad I F rw gd gl N t a n hN hN2 k (-1) (nI op) (by omega)) (cwV 0 C.1.1.2.2.2.2 gX10_factor_X10_isDigit rfl rfl rfl (by decide +kernel) ⟨by simp only [gR]; omega, by simp only [gR]; omega⟩) rfl hl.1 (Nat.le_of_ble_eq_true rfl) dX10_factor_154 ⟨Nat.le_of_ble_eq_true rfl, Nat.le_of_ble_eq_true rfl⟩) (fun r_1 u_2 H locs hw_3 h => ?_)
    have h : gS G A s (pO G ad (upd (upd (upd (upd (upd I 31 (nI a)) 32 (nI n)) 33 (nI k)) 34 (-1)) 35 (nI op)) F rw gd gl N t) H locs := h
    refine W.widen (k := 0) (n := 0) (Nat.le_of_ble_eq_true rfl) (Nat.le_of_ble_eq_true rfl) ?_
    subst hw_3
    refine lv_if_eq (tgt := 213) hx hb dX10_factor_157 (by decide) (fun c_157 => ?_) (fun c_157 => ?_)
    · exact kx1 v k _ _ ls (by rw [← hZ, pDl, if_pos c_157]) h (lv_sub hl [1] rfl)
    · refine lv_iload hx hb dX10_factor_160 (lv_at hl 2 rfl) ?_
      refine lv_iconst (v := 5) hx hb dX10_factor_162 (by decide) ?_
      refine lv_icmp_ne (tgt := 171) hx hb dX10_factor_163 (by decide) (fun c_163 => ?_) (fun c_163 => ?_)
      · exact absurd (by rw [show dg = 5 by omega]; rfl) c_163
      · refine lv_aload_n hx hb dX10_factor_166 rfl (lv_at hl 0 rfl) ?_
        have hp : List.Perm (pO G ad (upd (upd (upd (upd (upd I 31 (nI a)) 32 (nI n)) 33 (nI k)) 34 (-1)) 35 (nI op)) F rw gd gl N t : va_W) ([((ad 0), .inr (10, [.int (I 0), .ref (ad 1), .ref (ad 2), .ref (ad 3), .ref (ad 4), .ref (ad 5), .ref (ad 6), .ref (ad 7), .ref (ad 8), .ref (ad 9), .ref (ad 10), .ref (ad 11), .ref (ad 12), .ref (ad 13), .ref (ad 14), .ref (ad 15), .ref (ad 16), .ref (ad 17), .ref (ad 18), .ref (ad 19), .ref (ad 20), .ref (ad 21), .ref (ad 22), .int (I 23), .int (I 24), .int (I 25), .int (I 26), .int (I 27), .int (I 28), .int (I 29), .ref rw, .int (nI a), .int (nI n), .int (nI k), .int (-1), .int (nI op), .long gd, .long gl, .ref (ad 38), .ref (ad 39), .ref (ad 40), .ref (ad 41), .ref (ad 42), .ref (ad 43), .int (I 44), .int (I 45), .int (I 46), .int (I 47), .int (I 48), .int (I 49)])), (rw, .inl (G.2.2 0, N, .inl t))] ++ []) := pm 2 rfl [0, 1] (by decide +kernel) rfl
        refine k_l C h hp (r_runV C h hp 0 rfl rfl (As := []) (rest := []) (m_wrong l G ad I F rw gd gl N t a n hN hN2 (nI k) (nI op)) (cwV 0 C.1.1.2.2.2.2 gX10_factor_X10_wrong rfl rfl rfl (by decide +kernel) ⟨by simp only [gR]; omega, by simp only [gR]; omega⟩) rfl hl.1 (Nat.le_of_ble_eq_true rfl) dX10_factor_167 ⟨Nat.le_of_ble_eq_true rfl, Nat.le_of_ble_eq_true rfl⟩) (fun r_4 u_5 H locs hw_6 h => ?_)
        have h : gS G A s (pO G ad (upd (upd (upd (upd (upd I 31 (nI a)) 32 (nI n)) 33 (nI k)) 34 (nI k)) 35 (nI op)) F rw gd gl N t) H locs := h
        refine W.widen (k := 0) (n := 0) (Nat.le_of_ble_eq_true rfl) (Nat.le_of_ble_eq_true rfl) ?_
        subst hw_6
        exact kx2 k _ _ ls (by rw [← hZ, pDl, if_neg c_157]) h hl.1
  | succ r ih =>
    intro v dg k H locs ls hd hk hZ h hl
    refine lv_aload_n hx hb dX10_factor_153 rfl (lv_at hl 0 rfl) ?_
    have hp : List.Perm (pO G ad (upd (upd (upd (upd (upd I 31 (nI a)) 32 (nI n)) 33 (nI k)) 34 (-1)) 35 (nI op)) F rw gd gl N t : va_W) ([((ad 0), .inr (10, [.int (I 0), .ref (ad 1), .ref (ad 2), .ref (ad 3), .ref (ad 4), .ref (ad 5), .ref (ad 6), .ref (ad 7), .ref (ad 8), .ref (ad 9), .ref (ad 10), .ref (ad 11), .ref (ad 12), .ref (ad 13), .ref (ad 14), .ref (ad 15), .ref (ad 16), .ref (ad 17), .ref (ad 18), .ref (ad 19), .ref (ad 20), .ref (ad 21), .ref (ad 22), .int (I 23), .int (I 24), .int (I 25), .int (I 26), .int (I 27), .int (I 28), .int (I 29), .ref rw, .int (nI a), .int (nI n), .int (nI k), .int (-1), .int (nI op), .long gd, .long gl, .ref (ad 38), .ref (ad 39), .ref (ad 40), .ref (ad 41), .ref (ad 42), .ref (ad 43), .int (I 44), .int (I 45), .int (I 46), .int (I 47), .int (I 48), .int (I 49)])), (rw, .inl (G.2.2 0, N, .inl t))] ++ []) := pm 2 rfl [0, 1] (by decide +kernel) rfl
    refine k_i C h hp (r_runV C h hp 0 rfl rfl (As := []) (rest := []) (m_isDigit l G ad I F rw gd gl N t a n hN hN2 k (-1) (nI op) (by omega)) (cwV 0 C.1.1.2.2.2.2 gX10_factor_X10_isDigit rfl rfl rfl (by decide +kernel) ⟨by simp only [gR]; omega, by simp only [gR]; omega⟩) rfl hl.1 (Nat.le_of_ble_eq_true rfl) dX10_factor_154 ⟨Nat.le_of_ble_eq_true rfl, Nat.le_of_ble_eq_true rfl⟩) (fun r_1 u_2 H locs hw_3 h => ?_)
    have h : gS G A s (pO G ad (upd (upd (upd (upd (upd I 31 (nI a)) 32 (nI n)) 33 (nI k)) 34 (-1)) 35 (nI op)) F rw gd gl N t) H locs := h
    refine W.widen (k := 0) (n := 0) (Nat.le_of_ble_eq_true rfl) (Nat.le_of_ble_eq_true rfl) ?_
    subst hw_3
    refine lv_if_eq (tgt := 213) hx hb dX10_factor_157 (by decide) (fun c_157 => ?_) (fun c_157 => ?_)
    · exact kx1 v k _ _ ls (by rw [← hZ, pDl, if_pos c_157]) h (lv_sub hl [1] rfl)
    · have hkn := mDg_lt c_157 hk (by omega)
      refine lv_iload hx hb dX10_factor_160 (lv_at hl 2 rfl) ?_
      refine lv_iconst (v := 5) hx hb dX10_factor_162 (by decide) ?_
      refine lv_icmp_ne (tgt := 171) hx hb dX10_factor_163 (by decide) (fun c_163 => ?_) (fun c_163 => ?_)
      · refine r_ldc2 C (v := 10) wd0 dX10_factor_171 ?_
        refine lv_lload_n hx hb dX10_factor_174 rfl (lv_at hl 1 rfl) ?_
        refine lv_lmul hx hb dX10_factor_175 ?_
        refine lv_aload_n hx hb dX10_factor_176 rfl (lv_at hl 0 rfl) ?_
        refine r_get C h 0 rfl (Cn := RX10) (T := TX10) (N := 50) rfl hinX10 30 (by decide) (index := 77) (ref := "ScaleHouseModel") wd1 rfl (v := .ref rw) rfl dX10_factor_177 ?_
        refine lv_aload_n hx hb dX10_factor_180 rfl (lv_at hl 0 rfl) ?_
        refine r_get C h 0 rfl (Cn := RX10) (T := TX10) (N := 50) rfl hinX10 31 (by decide) (index := 126) (ref := "ScaleHouseModel") wd2 rfl (v := .int (nI a)) rfl dX10_factor_181 ?_
        refine lv_aload_n hx hb dX10_factor_184 rfl (lv_at hl 0 rfl) ?_
        refine r_get C h 0 rfl (Cn := RX10) (T := TX10) (N := 50) rfl hinX10 33 (by decide) (index := 120) (ref := "ScaleHouseModel") wd3 rfl (v := .int (nI k)) rfl dX10_factor_185 ?_
        refine lv_iadd hx hb dX10_factor_188 ?_
        refine lv_cgi (y := (nI (a + k))) (by rw [nI_add]) ?_
        refine r_bald C h 1 rfl (i := (nI (a + k))) (vp_in_nI (by omega) (by omega)) dX10_factor_189 ?_
        refine lv_cgi (y := (t (a + k))) (nn_at t (by omega)) ?_
        refine lv_i2l hx hb dX10_factor_190 rfl ?_
        refine lv_ladd hx hb dX10_factor_191 ?_
        refine r_ldc2 C (v := 48) wd4 dX10_factor_192 ?_
        refine lv_lsub hx hb dX10_factor_195 ?_
        refine lv_lstore_n (lv' := [(2, .long (((10 * v) + (t (a + k)).toInt64) - 48)), (0, .ref (ad 0)), (4, .int (nI dg))]) hx hb dX10_factor_196 rfl hl (by decide) rfl (fun ls hl => ?_)
        refine lv_iinc (v := nI (dg + 1)) (lv' := [(4, .int (nI (dg + 1))), (2, .long (((10 * v) + (t (a + k)).toInt64) - 48)), (0, .ref (ad 0))]) hx hb dX10_factor_197 hl (k := 2) rfl (nI_1 _) (by decide) rfl (fun ls hl => ?_)
        refine lv_aload_n hx hb dX10_factor_200 rfl (lv_at hl 2 rfl) ?_
        refine lv_dup hx hb dX10_factor_201 rfl ?_
        refine r_get C h 0 rfl (Cn := RX10) (T := TX10) (N := 50) rfl hinX10 33 (by decide) (index := 120) (ref := "ScaleHouseModel") wd3 rfl (v := .int (nI k)) rfl dX10_factor_202 ?_
        refine lv_iconst (v := 1) hx hb dX10_factor_205 (by decide) ?_
        refine lv_iadd hx hb dX10_factor_206 ?_
        refine lv_cgi (y := (nI (k + 1))) (nI_1 k) ?_
        refine r_put C h 0 rfl (Cn := RX10) (T := TX10) (N := 50) rfl hinX10 tyX10 tyX10_ok nmX10 33 (by decide) (index := 120) (ref := "ScaleHouseModel") wd3 rfl rfl (v := .int (nI (k + 1))) rfl rfl (show 33 < 50 by decide) dX10_factor_207 (fun H locs h => ?_)
        have h : gS G A s (pO G ad (upd (upd (upd (upd (upd I 31 (nI a)) 32 (nI n)) 33 (nI (k + 1))) 34 (-1)) 35 (nI op)) F rw gd gl N t) H locs := h
        refine lv_goto (tgt := 153) hx hb dX10_factor_210 (by decide) ?_
        exact ih _ (dg + 1) (k + 1) _ _ ls (by omega) (by omega) (by rw [← hZ, pDl, if_neg c_157]) h (lv_sub hl [2, 1, 0] rfl)
      · exact absurd (congrArg Int32.toNatClampNeg c_163) (by rw [nI_clamp (by omega)]; exact fun z9 => by have : dg = 5 := z9; omega)

set_option maxHeartbeats 4000000 in
set_option maxRecDepth 100000 in
theorem m_factor (l : Launch) (G : gG) (ad : Nat → Nat) (I : Nat → Int32) (F : Nat → Nat → Int32) (rw : Nat) (gd gl : Int64) (N : Nat) (t : Nat → Int32) (a n : Nat) (hN : a + n ≤ N) (hN2 : N ≤ 2400) (S : Nat → PZ) (fr lo op k : Nat) (hop : op ≤ 8) (hS8 : op = 8 → ∀ k, S k = .inl (k - 1)) (hSB : ∀ k, k ≤ n → 1 ≤ k → pB n k (S k)) (hS : op < 8 → ∀ k, k ≤ n → cM l yX10_sums wsX10_sums fr lo 0 0 G [.ref (ad 0)] (pO G ad (upd (upd (upd (upd (upd I 31 (nI a)) 32 (nI n)) 33 (nI k)) 34 (-1)) 35 (nI (op + 1))) F rw gd gl N t) (qL G (S := Int32 × Int32 × Int32) (fun r u => pQ (op + 1) (S k) r u) (fun u => pO G ad (upd (upd (upd (upd (upd I 31 (nI a)) 32 (nI n)) 33 u.1) 34 u.2.1) 35 u.2.2) F rw gd gl N t))) (hk : k ≤ n) : cM l yX10_factor wsX10_factor (fr + 1) (lo + 25) (0) (0) G [.ref (ad 0)] (pO G ad (upd (upd (upd (upd (upd I 31 (nI a)) 32 (nI n)) 33 (nI k)) 34 (-1)) 35 (nI op)) F rw gd gl N t) (qL G (S := Int32 × Int32 × Int32) (fun r u => pQ op (pFa t a n gd gl S k) r u) (fun u => pO G ad (upd (upd (upd (upd (upd I 31 (nI a)) 32 (nI n)) 33 u.1) 34 u.2.1) 35 u.2.2) F rw gd gl N t)) := by
  refine o_M (cc := cX10_factor) (maxL := 5) (ret := (some .long)) (own := RX10) (by decide +kernel) rfl rfl (Nat.le_of_ble_eq_true rfl) ?_
  intro p e s m below meth c A ls H locs hA C h hr hlk hnm hl
  have hx := C.1.1.1
  have hb := C.1.1.2.1
  have hl : lv_has ls 5 [(0, .ref (ad 0))] := hl
  have wd0 : Cond.fieldLink RX10 120 "ScaleHouseModel" "at" "I" ∈ wsX10_factor := by decide +kernel
  have hinX10 : ∀ w ∈ wsX100, w ∈ wsX10_factor := fun _ h => List.mem_cons_of_mem _ (List.mem_append_right _ h)
  have wd1 : Cond.fieldLink RX10 149 "ScaleHouseModel" "givenD" "J" ∈ wsX10_factor := by decide +kernel
  have wd2 : Cond.fieldLink RX10 156 "ScaleHouseModel" "open" "I" ∈ wsX10_factor := by decide +kernel
  have wd3 : Cond.fieldLink RX10 129 "ScaleHouseModel" "fault" "I" ∈ wsX10_factor := by decide +kernel
  have wd4 : Cond.fieldLink RX10 153 "ScaleHouseModel" "givenL" "J" ∈ wsX10_factor := by decide +kernel
  refine lv_aload_n hx hb dX10_factor_0 rfl (lv_at hl 0 rfl) ?_
  have hp : List.Perm (pO G ad (upd (upd (upd (upd (upd I 31 (nI a)) 32 (nI n)) 33 (nI k)) 34 (-1)) 35 (nI op)) F rw gd gl N t : va_W) ([((ad 0), .inr (10, [.int (I 0), .ref (ad 1), .ref (ad 2), .ref (ad 3), .ref (ad 4), .ref (ad 5), .ref (ad 6), .ref (ad 7), .ref (ad 8), .ref (ad 9), .ref (ad 10), .ref (ad 11), .ref (ad 12), .ref (ad 13), .ref (ad 14), .ref (ad 15), .ref (ad 16), .ref (ad 17), .ref (ad 18), .ref (ad 19), .ref (ad 20), .ref (ad 21), .ref (ad 22), .int (I 23), .int (I 24), .int (I 25), .int (I 26), .int (I 27), .int (I 28), .int (I 29), .ref rw, .int (nI a), .int (nI n), .int (nI k), .int (-1), .int (nI op), .long gd, .long gl, .ref (ad 38), .ref (ad 39), .ref (ad 40), .ref (ad 41), .ref (ad 42), .ref (ad 43), .int (I 44), .int (I 45), .int (I 46), .int (I 47), .int (I 48), .int (I 49)])), (rw, .inl (G.2.2 0, N, .inl t))] ++ []) := pm 2 rfl [0, 1] (by decide +kernel) rfl
  refine k_i C h hp (r_runV C h hp 0 rfl rfl (As := []) (rest := []) (m_look l G ad I F rw gd gl N t a n hN hN2 k (-1) (nI op) (by omega)) (cwV 0 C.1.1.2.2.2.2 gX10_factor_X10_look rfl rfl rfl (by decide +kernel) ⟨by simp only [gR]; omega, by simp only [gR]; omega⟩) rfl hl.1 (Nat.le_of_ble_eq_true rfl) dX10_factor_1 ⟨Nat.le_of_ble_eq_true rfl, Nat.le_of_ble_eq_true rfl⟩) (fun r_1 u_2 H locs hw_3 h => ?_)
  subst hw_3
  have hgj := lk_ge t a n k (by omega)
  have hsj := lk_lk t a n k (by omega)
  generalize ej : lk t a n k = j at h hgj hsj ⊢
  have h : gS G A s (pO G ad (upd (upd (upd (upd (upd I 31 (nI a)) 32 (nI n)) 33 (nI j)) 34 (-1)) 35 (nI op)) F rw gd gl N t) H locs := h
  refine W.widen (k := 0) (n := 0) (Nat.le_of_ble_eq_true rfl) (Nat.le_of_ble_eq_true rfl) ?_
  refine lv_istore_n (lv' := [(1, .int (lkV t a n j)), (0, .ref (ad 0))]) hx hb dX10_factor_4 rfl hl (by decide) rfl (fun ls hl => ?_)
  refine lv_iload_n hx hb dX10_factor_5 rfl (lv_at hl 0 rfl) ?_
  refine lv_bipush (v := 100) hx hb dX10_factor_6 (by decide) ?_
  refine lv_icmp_eq (tgt := 17) hx hb dX10_factor_8 (by decide) (fun c_8 => ?_) (fun c_8 => ?_)
  · refine lv_aload_n hx hb dX10_factor_17 rfl (lv_at hl 1 rfl) ?_
    refine lv_dup hx hb dX10_factor_18 rfl ?_
    refine r_get C h 0 rfl (Cn := RX10) (T := TX10) (N := 50) rfl hinX10 33 (by decide) (index := 120) (ref := "ScaleHouseModel") wd0 rfl (v := .int (nI j)) rfl dX10_factor_19 ?_
    refine lv_iconst (v := 1) hx hb dX10_factor_22 (by decide) ?_
    refine lv_iadd hx hb dX10_factor_23 ?_
    refine lv_cgi (y := (nI (j + 1))) (nI_1 j) ?_
    refine r_put C h 0 rfl (Cn := RX10) (T := TX10) (N := 50) rfl hinX10 tyX10 tyX10_ok nmX10 33 (by decide) (index := 120) (ref := "ScaleHouseModel") wd0 rfl rfl (v := .int (nI (j + 1))) rfl rfl (show 33 < 50 by decide) dX10_factor_24 (fun H locs h => ?_)
    have h : gS G A s (pO G ad (upd (upd (upd (upd (upd I 31 (nI a)) 32 (nI n)) 33 (nI (j + 1))) 34 (-1)) 35 (nI op)) F rw gd gl N t) H locs := h
    refine lv_iload_n hx hb dX10_factor_27 rfl (lv_at hl 0 rfl) ?_
    refine lv_bipush (v := 100) hx hb dX10_factor_28 (by decide) ?_
    refine lv_icmp_ne (tgt := 40) hx hb dX10_factor_30 (by decide) (fun c_30 => ?_) (fun c_30 => ?_)
    · exact absurd c_8 c_30
    · refine lv_aload_n hx hb dX10_factor_33 rfl (lv_at hl 1 rfl) ?_
      refine r_get C h 0 rfl (Cn := RX10) (T := TX10) (N := 50) rfl hinX10 36 (by decide) (index := 149) (ref := "ScaleHouseModel") wd1 rfl (v := .long gd) rfl dX10_factor_34 ?_
      refine lv_goto (tgt := 44) hx hb dX10_factor_37 (by decide) ?_
      exact r_lret C h hr hlk (Nat.zero_le _) (Nat.zero_le _) ((nI (j + 1)), (-1), (nI op)) (by rw [show pFa t a n gd gl S k = .inr (gd, j + 1) from by rw [pFa, ej, pFj]; simp only [if_pos c_8]]; exact ⟨rfl, rfl⟩) (rfl) dX10_factor_44
  · refine lv_iload_n hx hb dX10_factor_11 rfl (lv_at hl 0 rfl) ?_
    refine lv_bipush (v := 108) hx hb dX10_factor_12 (by decide) ?_
    refine lv_icmp_ne (tgt := 45) hx hb dX10_factor_14 (by decide) (fun c_14 => ?_) (fun c_14 => ?_)
    · refine lv_iload_n hx hb dX10_factor_45 rfl (lv_at hl 0 rfl) ?_
      refine lv_bipush (v := 40) hx hb dX10_factor_46 (by decide) ?_
      refine lv_icmp_ne (tgt := 136) hx hb dX10_factor_48 (by decide) (fun c_48 => ?_) (fun c_48 => ?_)
      · refine lv_aload_n hx hb dX10_factor_136 rfl (lv_at hl 1 rfl) ?_
        have hp : List.Perm (pO G ad (upd (upd (upd (upd (upd I 31 (nI a)) 32 (nI n)) 33 (nI j)) 34 (-1)) 35 (nI op)) F rw gd gl N t : va_W) ([((ad 0), .inr (10, [.int (I 0), .ref (ad 1), .ref (ad 2), .ref (ad 3), .ref (ad 4), .ref (ad 5), .ref (ad 6), .ref (ad 7), .ref (ad 8), .ref (ad 9), .ref (ad 10), .ref (ad 11), .ref (ad 12), .ref (ad 13), .ref (ad 14), .ref (ad 15), .ref (ad 16), .ref (ad 17), .ref (ad 18), .ref (ad 19), .ref (ad 20), .ref (ad 21), .ref (ad 22), .int (I 23), .int (I 24), .int (I 25), .int (I 26), .int (I 27), .int (I 28), .int (I 29), .ref rw, .int (nI a), .int (nI n), .int (nI j), .int (-1), .int (nI op), .long gd, .long gl, .ref (ad 38), .ref (ad 39), .ref (ad 40), .ref (ad 41), .ref (ad 42), .ref (ad 43), .int (I 44), .int (I 45), .int (I 46), .int (I 47), .int (I 48), .int (I 49)])), (rw, .inl (G.2.2 0, N, .inl t))] ++ []) := pm 2 rfl [0, 1] (by decide +kernel) rfl
        refine k_i C h hp (r_runV C h hp 0 rfl rfl (As := []) (rest := []) (m_isDigit l G ad I F rw gd gl N t a n hN hN2 j (-1) (nI op) (by omega)) (cwV 0 C.1.1.2.2.2.2 gX10_factor_X10_isDigit rfl rfl rfl (by decide +kernel) ⟨by simp only [gR]; omega, by simp only [gR]; omega⟩) rfl hl.1 (Nat.le_of_ble_eq_true rfl) dX10_factor_137 ⟨Nat.le_of_ble_eq_true rfl, Nat.le_of_ble_eq_true rfl⟩) (fun r_4 u_5 H locs hw_6 h => ?_)
        have h : gS G A s (pO G ad (upd (upd (upd (upd (upd I 31 (nI a)) 32 (nI n)) 33 (nI j)) 34 (-1)) 35 (nI op)) F rw gd gl N t) H locs := h
        refine W.widen (k := 0) (n := 0) (Nat.le_of_ble_eq_true rfl) (Nat.le_of_ble_eq_true rfl) ?_
        subst hw_6
        refine lv_if_ne (tgt := 148) hx hb dX10_factor_140 (by decide) (fun c_140 => ?_) (fun c_140 => ?_)
        · refine lv_lconst (v := 0) hx hb dX10_factor_148 (by decide) ?_
          refine lv_lstore_n (lv' := [(2, .long 0), (1, .int (lkV t a n j)), (0, .ref (ad 0))]) hx hb dX10_factor_149 rfl hl (by decide) rfl (fun ls hl => ?_)
          refine lv_iconst (v := 0) hx hb dX10_factor_150 (by decide) ?_
          refine lv_istore (lv' := [(4, .int 0), (2, .long 0), (1, .int (lkV t a n j)), (0, .ref (ad 0))]) hx hb dX10_factor_151 hl (by decide) rfl (fun ls hl => ?_)
          refine lp_X10_factor C ad I F rw gd gl N t a n hN hN2 fr lo op (pFa t a n gd gl S k) (fun v k9 H locs ls eZ h hl => ?_) (fun k9 H locs ls eZ h hl => ?_) 5 0 0 j _ _ ls rfl (by omega) (by rw [pFa, ej, pFj]; simp only [if_neg c_8, if_neg c_14, if_neg c_48, if_neg c_140]) h (lv_sub hl [3, 1, 0] rfl)
          · refine lv_lload_n hx hb dX10_factor_213 rfl (lv_at hl 0 rfl) ?_
            exact r_lret C h hr hlk (Nat.zero_le _) (Nat.zero_le _) (nI k9, -1, nI op) (by rw [eZ]; exact ⟨rfl, rfl⟩) rfl dX10_factor_214
          · exact r_lret C h hr hlk (Nat.zero_le _) (Nat.zero_le _) (nI k9, nI k9, nI op) (by rw [eZ]; exact rfl) rfl dX10_factor_170
        · refine lv_aload_n hx hb dX10_factor_143 rfl (lv_at hl 1 rfl) ?_
          have hp : List.Perm (pO G ad (upd (upd (upd (upd (upd I 31 (nI a)) 32 (nI n)) 33 (nI j)) 34 (-1)) 35 (nI op)) F rw gd gl N t : va_W) ([((ad 0), .inr (10, [.int (I 0), .ref (ad 1), .ref (ad 2), .ref (ad 3), .ref (ad 4), .ref (ad 5), .ref (ad 6), .ref (ad 7), .ref (ad 8), .ref (ad 9), .ref (ad 10), .ref (ad 11), .ref (ad 12), .ref (ad 13), .ref (ad 14), .ref (ad 15), .ref (ad 16), .ref (ad 17), .ref (ad 18), .ref (ad 19), .ref (ad 20), .ref (ad 21), .ref (ad 22), .int (I 23), .int (I 24), .int (I 25), .int (I 26), .int (I 27), .int (I 28), .int (I 29), .ref rw, .int (nI a), .int (nI n), .int (nI j), .int (-1), .int (nI op), .long gd, .long gl, .ref (ad 38), .ref (ad 39), .ref (ad 40), .ref (ad 41), .ref (ad 42), .ref (ad 43), .int (I 44), .int (I 45), .int (I 46), .int (I 47), .int (I 48), .int (I 49)])), (rw, .inl (G.2.2 0, N, .inl t))] ++ []) := pm 2 rfl [0, 1] (by decide +kernel) rfl
          refine k_l C h hp (r_runV C h hp 0 rfl rfl (As := []) (rest := []) (m_wrong l G ad I F rw gd gl N t a n hN hN2 (nI j) (nI op)) (cwV 0 C.1.1.2.2.2.2 gX10_factor_X10_wrong rfl rfl rfl (by decide +kernel) ⟨by simp only [gR]; omega, by simp only [gR]; omega⟩) rfl hl.1 (Nat.le_of_ble_eq_true rfl) dX10_factor_144 ⟨Nat.le_of_ble_eq_true rfl, Nat.le_of_ble_eq_true rfl⟩) (fun r_7 u_8 H locs hw_9 h => ?_)
          have h : gS G A s (pO G ad (upd (upd (upd (upd (upd I 31 (nI a)) 32 (nI n)) 33 (nI j)) 34 (nI j)) 35 (nI op)) F rw gd gl N t) H locs := h
          refine W.widen (k := 0) (n := 0) (Nat.le_of_ble_eq_true rfl) (Nat.le_of_ble_eq_true rfl) ?_
          subst hw_9
          exact r_lret C h hr hlk (Nat.zero_le _) (Nat.zero_le _) ((nI j), (nI j), (nI op)) (by rw [show pFa t a n gd gl S k = .inl j from by rw [pFa, ej, pFj]; simp only [if_neg c_8, if_neg c_14, if_neg c_48]; rw [if_pos c_140]]; exact rfl) (rfl) dX10_factor_147
      · refine lv_aload_n hx hb dX10_factor_51 rfl (lv_at hl 1 rfl) ?_
        refine r_get C h 0 rfl (Cn := RX10) (T := TX10) (N := 50) rfl hinX10 35 (by decide) (index := 156) (ref := "ScaleHouseModel") wd2 rfl (v := .int (nI op)) rfl dX10_factor_52 ?_
        refine lv_bipush (v := 8) hx hb dX10_factor_55 (by decide) ?_
        refine lv_icmp_ne (tgt := 65) hx hb dX10_factor_57 (by decide) (fun c_57 => ?_) (fun c_57 => ?_)
        · have h8 : op < 8 := Nat.lt_of_le_of_ne hop (fun z9 => c_57 (by rw [z9]; rfl))
          have hjn := lkV_lt c_48 (by decide)
          refine lv_aload_n hx hb dX10_factor_65 rfl (lv_at hl 1 rfl) ?_
          refine lv_dup hx hb dX10_factor_66 rfl ?_
          refine r_get C h 0 rfl (Cn := RX10) (T := TX10) (N := 50) rfl hinX10 35 (by decide) (index := 156) (ref := "ScaleHouseModel") wd2 rfl (v := .int (nI op)) rfl dX10_factor_67 ?_
          refine lv_iconst (v := 1) hx hb dX10_factor_70 (by decide) ?_
          refine lv_iadd hx hb dX10_factor_71 ?_
          refine lv_cgi (y := (nI (op + 1))) (nI_1 op) ?_
          refine r_put C h 0 rfl (Cn := RX10) (T := TX10) (N := 50) rfl hinX10 tyX10 tyX10_ok nmX10 35 (by decide) (index := 156) (ref := "ScaleHouseModel") wd2 rfl rfl (v := .int (nI (op + 1))) rfl rfl (show 35 < 50 by decide) dX10_factor_72 (fun H locs h => ?_)
          have h : gS G A s (pO G ad (upd (upd (upd (upd (upd I 31 (nI a)) 32 (nI n)) 33 (nI j)) 34 (-1)) 35 (nI (op + 1))) F rw gd gl N t) H locs := h
          refine lv_aload_n hx hb dX10_factor_75 rfl (lv_at hl 1 rfl) ?_
          refine lv_dup hx hb dX10_factor_76 rfl ?_
          refine r_get C h 0 rfl (Cn := RX10) (T := TX10) (N := 50) rfl hinX10 33 (by decide) (index := 120) (ref := "ScaleHouseModel") wd0 rfl (v := .int (nI j)) rfl dX10_factor_77 ?_
          refine lv_iconst (v := 1) hx hb dX10_factor_80 (by decide) ?_
          refine lv_iadd hx hb dX10_factor_81 ?_
          refine lv_cgi (y := (nI (j + 1))) (nI_1 j) ?_
          refine r_put C h 0 rfl (Cn := RX10) (T := TX10) (N := 50) rfl hinX10 tyX10 tyX10_ok nmX10 33 (by decide) (index := 120) (ref := "ScaleHouseModel") wd0 rfl rfl (v := .int (nI (j + 1))) rfl rfl (show 33 < 50 by decide) dX10_factor_82 (fun H locs h => ?_)
          have h : gS G A s (pO G ad (upd (upd (upd (upd (upd I 31 (nI a)) 32 (nI n)) 33 (nI (j + 1))) 34 (-1)) 35 (nI (op + 1))) F rw gd gl N t) H locs := h
          refine lv_aload_n hx hb dX10_factor_85 rfl (lv_at hl 1 rfl) ?_
          have hp : List.Perm (pO G ad (upd (upd (upd (upd (upd I 31 (nI a)) 32 (nI n)) 33 (nI (j + 1))) 34 (-1)) 35 (nI (op + 1))) F rw gd gl N t : va_W) ([((ad 0), .inr (10, [.int (I 0), .ref (ad 1), .ref (ad 2), .ref (ad 3), .ref (ad 4), .ref (ad 5), .ref (ad 6), .ref (ad 7), .ref (ad 8), .ref (ad 9), .ref (ad 10), .ref (ad 11), .ref (ad 12), .ref (ad 13), .ref (ad 14), .ref (ad 15), .ref (ad 16), .ref (ad 17), .ref (ad 18), .ref (ad 19), .ref (ad 20), .ref (ad 21), .ref (ad 22), .int (I 23), .int (I 24), .int (I 25), .int (I 26), .int (I 27), .int (I 28), .int (I 29), .ref rw, .int (nI a), .int (nI n), .int (nI (j + 1)), .int (-1), .int (nI (op + 1)), .long gd, .long gl, .ref (ad 38), .ref (ad 39), .ref (ad 40), .ref (ad 41), .ref (ad 42), .ref (ad 43), .int (I 44), .int (I 45), .int (I 46), .int (I 47), .int (I 48), .int (I 49)])), (rw, .inl (G.2.2 0, N, .inl t))] ++ []) := pm 2 rfl [0, 1] (by decide +kernel) rfl
          refine k_l C h hp (r_runV C h hp 0 rfl rfl (As := []) (rest := []) (hS h8 (j + 1) (by omega)) (cwV 0 C.1.1.2.2.2.2 gX10_factor_X10_sums rfl rfl rfl (by decide +kernel) ⟨by simp only [gR]; omega, by simp only [gR]; omega⟩) rfl hl.1 (Nat.le_of_ble_eq_true rfl) dX10_factor_86 ⟨Nat.le_of_ble_eq_true rfl, Nat.le_of_ble_eq_true rfl⟩) (fun v1 u1 H locs hwu1 h => ?_)
          have h : gS G A s (pO G ad (upd (upd (upd (upd (upd I 31 (nI a)) 32 (nI n)) 33 u1.1) 34 u1.2.1) 35 u1.2.2) F rw gd gl N t) H locs := h
          refine W.widen (k := 0) (n := 0) (Nat.le_of_ble_eq_true rfl) (Nat.le_of_ble_eq_true rfl) ?_
          refine lv_lstore_n (lv' := [(2, .long v1), (1, .int (lkV t a n j)), (0, .ref (ad 0))]) hx hb dX10_factor_89 rfl hl (by decide) rfl (fun ls hl => ?_)
          refine lv_aload_n hx hb dX10_factor_90 rfl (lv_at hl 2 rfl) ?_
          refine r_get C h 0 rfl (Cn := RX10) (T := TX10) (N := 50) rfl hinX10 34 (by decide) (index := 129) (ref := "ScaleHouseModel") wd3 rfl (v := .int u1.2.1) rfl dX10_factor_91 ?_
          refine lv_iconst (v := -1) hx hb dX10_factor_94 (by decide) ?_
          refine lv_icmp_eq (tgt := 100) hx hb dX10_factor_95 (by decide) (fun c_95 => ?_) (fun c_95 => ?_)
          · obtain ⟨k2, hZ1, hu1, hk21, hk22⟩ := pQ_t hwu1 (hSB (j + 1) (by omega) (by omega)) (by omega) c_95
            subst hu1
            have h : gS G A s (pO G ad (upd (upd (upd (upd (upd I 31 (nI a)) 32 (nI n)) 33 (nI k2)) 34 (-1)) 35 (nI (op + 1))) F rw gd gl N t) H locs := h
            refine lv_aload_n hx hb dX10_factor_100 rfl (lv_at hl 2 rfl) ?_
            have hp : List.Perm (pO G ad (upd (upd (upd (upd (upd I 31 (nI a)) 32 (nI n)) 33 (nI k2)) 34 (-1)) 35 (nI (op + 1))) F rw gd gl N t : va_W) ([((ad 0), .inr (10, [.int (I 0), .ref (ad 1), .ref (ad 2), .ref (ad 3), .ref (ad 4), .ref (ad 5), .ref (ad 6), .ref (ad 7), .ref (ad 8), .ref (ad 9), .ref (ad 10), .ref (ad 11), .ref (ad 12), .ref (ad 13), .ref (ad 14), .ref (ad 15), .ref (ad 16), .ref (ad 17), .ref (ad 18), .ref (ad 19), .ref (ad 20), .ref (ad 21), .ref (ad 22), .int (I 23), .int (I 24), .int (I 25), .int (I 26), .int (I 27), .int (I 28), .int (I 29), .ref rw, .int (nI a), .int (nI n), .int (nI k2), .int (-1), .int (nI (op + 1)), .long gd, .long gl, .ref (ad 38), .ref (ad 39), .ref (ad 40), .ref (ad 41), .ref (ad 42), .ref (ad 43), .int (I 44), .int (I 45), .int (I 46), .int (I 47), .int (I 48), .int (I 49)])), (rw, .inl (G.2.2 0, N, .inl t))] ++ []) := pm 2 rfl [0, 1] (by decide +kernel) rfl
            refine k_i C h hp (r_runV C h hp 0 rfl rfl (As := []) (rest := []) (m_look l G ad I F rw gd gl N t a n hN hN2 k2 (-1) (nI (op + 1)) (by omega)) (cwV 0 C.1.1.2.2.2.2 gX10_factor_X10_look rfl rfl rfl (by decide +kernel) ⟨by simp only [gR]; omega, by simp only [gR]; omega⟩) rfl hl.1 (Nat.le_of_ble_eq_true rfl) dX10_factor_101 ⟨Nat.le_of_ble_eq_true rfl, Nat.le_of_ble_eq_true rfl⟩) (fun r_10 u_11 H locs hw_12 h => ?_)
            subst hw_12
            have hgj2 := lk_ge t a n k2 (by omega)
            have hsj2 := lk_lk t a n k2 (by omega)
            generalize ej2 : lk t a n k2 = j2 at h hgj2 hsj2 ⊢
            have h : gS G A s (pO G ad (upd (upd (upd (upd (upd I 31 (nI a)) 32 (nI n)) 33 (nI j2)) 34 (-1)) 35 (nI (op + 1))) F rw gd gl N t) H locs := h
            refine W.widen (k := 0) (n := 0) (Nat.le_of_ble_eq_true rfl) (Nat.le_of_ble_eq_true rfl) ?_
            refine lv_bipush (v := 41) hx hb dX10_factor_104 (by decide) ?_
            refine lv_icmp_eq (tgt := 114) hx hb dX10_factor_106 (by decide) (fun c_106 => ?_) (fun c_106 => ?_)
            · refine lv_aload_n hx hb dX10_factor_114 rfl (lv_at hl 2 rfl) ?_
              refine lv_dup hx hb dX10_factor_115 rfl ?_
              refine r_get C h 0 rfl (Cn := RX10) (T := TX10) (N := 50) rfl hinX10 33 (by decide) (index := 120) (ref := "ScaleHouseModel") wd0 rfl (v := .int (nI j2)) rfl dX10_factor_116 ?_
              refine lv_iconst (v := 1) hx hb dX10_factor_119 (by decide) ?_
              refine lv_iadd hx hb dX10_factor_120 ?_
              refine lv_cgi (y := (nI (j2 + 1))) (nI_1 j2) ?_
              refine r_put C h 0 rfl (Cn := RX10) (T := TX10) (N := 50) rfl hinX10 tyX10 tyX10_ok nmX10 33 (by decide) (index := 120) (ref := "ScaleHouseModel") wd0 rfl rfl (v := .int (nI (j2 + 1))) rfl rfl (show 33 < 50 by decide) dX10_factor_121 (fun H locs h => ?_)
              have h : gS G A s (pO G ad (upd (upd (upd (upd (upd I 31 (nI a)) 32 (nI n)) 33 (nI (j2 + 1))) 34 (-1)) 35 (nI (op + 1))) F rw gd gl N t) H locs := h
              refine lv_aload_n hx hb dX10_factor_124 rfl (lv_at hl 2 rfl) ?_
              refine lv_dup hx hb dX10_factor_125 rfl ?_
              refine r_get C h 0 rfl (Cn := RX10) (T := TX10) (N := 50) rfl hinX10 35 (by decide) (index := 156) (ref := "ScaleHouseModel") wd2 rfl (v := .int (nI (op + 1))) rfl dX10_factor_126 ?_
              refine lv_iconst (v := 1) hx hb dX10_factor_129 (by decide) ?_
              refine lv_isub hx hb dX10_factor_130 ?_
              refine lv_cgi (y := (nI op)) (nI_pred op) ?_
              refine r_put C h 0 rfl (Cn := RX10) (T := TX10) (N := 50) rfl hinX10 tyX10 tyX10_ok nmX10 35 (by decide) (index := 156) (ref := "ScaleHouseModel") wd2 rfl rfl (v := .int (nI op)) rfl rfl (show 35 < 50 by decide) dX10_factor_131 (fun H locs h => ?_)
              have h : gS G A s (pO G ad (upd (upd (upd (upd (upd I 31 (nI a)) 32 (nI n)) 33 (nI (j2 + 1))) 34 (-1)) 35 (nI op)) F rw gd gl N t) H locs := h
              refine lv_lload_n hx hb dX10_factor_134 rfl (lv_at hl 0 rfl) ?_
              exact r_lret C h hr hlk (Nat.zero_le _) (Nat.zero_le _) ((nI (j2 + 1)), (-1), (nI op)) (by rw [show pFa t a n gd gl S k = .inr (v1, j2 + 1) from by rw [pFa, ej, pFj]; simp only [if_neg c_8, if_neg c_14, if_pos c_48]; rw [hZ1]; simp only [pFb, ej2, if_pos c_106]]; exact ⟨rfl, rfl⟩) (rfl) dX10_factor_135
            · refine lv_aload_n hx hb dX10_factor_109 rfl (lv_at hl 2 rfl) ?_
              have hp : List.Perm (pO G ad (upd (upd (upd (upd (upd I 31 (nI a)) 32 (nI n)) 33 (nI j2)) 34 (-1)) 35 (nI (op + 1))) F rw gd gl N t : va_W) ([((ad 0), .inr (10, [.int (I 0), .ref (ad 1), .ref (ad 2), .ref (ad 3), .ref (ad 4), .ref (ad 5), .ref (ad 6), .ref (ad 7), .ref (ad 8), .ref (ad 9), .ref (ad 10), .ref (ad 11), .ref (ad 12), .ref (ad 13), .ref (ad 14), .ref (ad 15), .ref (ad 16), .ref (ad 17), .ref (ad 18), .ref (ad 19), .ref (ad 20), .ref (ad 21), .ref (ad 22), .int (I 23), .int (I 24), .int (I 25), .int (I 26), .int (I 27), .int (I 28), .int (I 29), .ref rw, .int (nI a), .int (nI n), .int (nI j2), .int (-1), .int (nI (op + 1)), .long gd, .long gl, .ref (ad 38), .ref (ad 39), .ref (ad 40), .ref (ad 41), .ref (ad 42), .ref (ad 43), .int (I 44), .int (I 45), .int (I 46), .int (I 47), .int (I 48), .int (I 49)])), (rw, .inl (G.2.2 0, N, .inl t))] ++ []) := pm 2 rfl [0, 1] (by decide +kernel) rfl
              refine k_l C h hp (r_runV C h hp 0 rfl rfl (As := []) (rest := []) (m_wrong l G ad I F rw gd gl N t a n hN hN2 (nI j2) (nI (op + 1))) (cwV 0 C.1.1.2.2.2.2 gX10_factor_X10_wrong rfl rfl rfl (by decide +kernel) ⟨by simp only [gR]; omega, by simp only [gR]; omega⟩) rfl hl.1 (Nat.le_of_ble_eq_true rfl) dX10_factor_110 ⟨Nat.le_of_ble_eq_true rfl, Nat.le_of_ble_eq_true rfl⟩) (fun r_13 u_14 H locs hw_15 h => ?_)
              have h : gS G A s (pO G ad (upd (upd (upd (upd (upd I 31 (nI a)) 32 (nI n)) 33 (nI j2)) 34 (nI j2)) 35 (nI (op + 1))) F rw gd gl N t) H locs := h
              refine W.widen (k := 0) (n := 0) (Nat.le_of_ble_eq_true rfl) (Nat.le_of_ble_eq_true rfl) ?_
              subst hw_15
              exact r_lret C h hr hlk (Nat.zero_le _) (Nat.zero_le _) ((nI j2), (nI j2), (nI (op + 1))) (by rw [show pFa t a n gd gl S k = .inl j2 from by rw [pFa, ej, pFj]; simp only [if_neg c_8, if_neg c_14, if_pos c_48]; rw [hZ1]; simp only [pFb, ej2, if_neg c_106]]; exact rfl) (rfl) dX10_factor_113
          · obtain ⟨q, hZ1, hq⟩ := pQ_f (n := n) (k := k) hwu1 c_95
            refine lv_lconst (v := 0) hx hb dX10_factor_98 (by decide) ?_
            exact r_lret C h hr hlk (Nat.zero_le _) (Nat.zero_le _) u1 (by rw [show pFa t a n gd gl S k = .inl q from by rw [pFa, ej, pFj]; simp only [if_neg c_8, if_neg c_14, if_pos c_48]; rw [hZ1]; rfl]; exact hq) (rfl) dX10_factor_99
        · have h8 : op = 8 := by
            have z9 := congrArg Int32.toNatClampNeg c_57
            rw [nI_clamp (by omega)] at z9
            exact z9
          refine lv_aload_n hx hb dX10_factor_60 rfl (lv_at hl 1 rfl) ?_
          have hp : List.Perm (pO G ad (upd (upd (upd (upd (upd I 31 (nI a)) 32 (nI n)) 33 (nI j)) 34 (-1)) 35 (nI op)) F rw gd gl N t : va_W) ([((ad 0), .inr (10, [.int (I 0), .ref (ad 1), .ref (ad 2), .ref (ad 3), .ref (ad 4), .ref (ad 5), .ref (ad 6), .ref (ad 7), .ref (ad 8), .ref (ad 9), .ref (ad 10), .ref (ad 11), .ref (ad 12), .ref (ad 13), .ref (ad 14), .ref (ad 15), .ref (ad 16), .ref (ad 17), .ref (ad 18), .ref (ad 19), .ref (ad 20), .ref (ad 21), .ref (ad 22), .int (I 23), .int (I 24), .int (I 25), .int (I 26), .int (I 27), .int (I 28), .int (I 29), .ref rw, .int (nI a), .int (nI n), .int (nI j), .int (-1), .int (nI op), .long gd, .long gl, .ref (ad 38), .ref (ad 39), .ref (ad 40), .ref (ad 41), .ref (ad 42), .ref (ad 43), .int (I 44), .int (I 45), .int (I 46), .int (I 47), .int (I 48), .int (I 49)])), (rw, .inl (G.2.2 0, N, .inl t))] ++ []) := pm 2 rfl [0, 1] (by decide +kernel) rfl
          refine k_l C h hp (r_runV C h hp 0 rfl rfl (As := []) (rest := []) (m_wrong l G ad I F rw gd gl N t a n hN hN2 (nI j) (nI op)) (cwV 0 C.1.1.2.2.2.2 gX10_factor_X10_wrong rfl rfl rfl (by decide +kernel) ⟨by simp only [gR]; omega, by simp only [gR]; omega⟩) rfl hl.1 (Nat.le_of_ble_eq_true rfl) dX10_factor_61 ⟨Nat.le_of_ble_eq_true rfl, Nat.le_of_ble_eq_true rfl⟩) (fun r_16 u_17 H locs hw_18 h => ?_)
          have h : gS G A s (pO G ad (upd (upd (upd (upd (upd I 31 (nI a)) 32 (nI n)) 33 (nI j)) 34 (nI j)) 35 (nI op)) F rw gd gl N t) H locs := h
          refine W.widen (k := 0) (n := 0) (Nat.le_of_ble_eq_true rfl) (Nat.le_of_ble_eq_true rfl) ?_
          subst hw_18
          exact r_lret C h hr hlk (Nat.zero_le _) (Nat.zero_le _) ((nI j), (nI j), (nI op)) (by rw [show pFa t a n gd gl S k = .inl j from by rw [pFa, ej, pFj]; simp only [if_neg c_8, if_neg c_14, if_pos c_48]; rw [hS8 h8, pFb, Nat.add_sub_cancel]]; exact rfl) (rfl) dX10_factor_64
    · refine lv_aload_n hx hb dX10_factor_17 rfl (lv_at hl 1 rfl) ?_
      refine lv_dup hx hb dX10_factor_18 rfl ?_
      refine r_get C h 0 rfl (Cn := RX10) (T := TX10) (N := 50) rfl hinX10 33 (by decide) (index := 120) (ref := "ScaleHouseModel") wd0 rfl (v := .int (nI j)) rfl dX10_factor_19 ?_
      refine lv_iconst (v := 1) hx hb dX10_factor_22 (by decide) ?_
      refine lv_iadd hx hb dX10_factor_23 ?_
      refine lv_cgi (y := (nI (j + 1))) (nI_1 j) ?_
      refine r_put C h 0 rfl (Cn := RX10) (T := TX10) (N := 50) rfl hinX10 tyX10 tyX10_ok nmX10 33 (by decide) (index := 120) (ref := "ScaleHouseModel") wd0 rfl rfl (v := .int (nI (j + 1))) rfl rfl (show 33 < 50 by decide) dX10_factor_24 (fun H locs h => ?_)
      have h : gS G A s (pO G ad (upd (upd (upd (upd (upd I 31 (nI a)) 32 (nI n)) 33 (nI (j + 1))) 34 (-1)) 35 (nI op)) F rw gd gl N t) H locs := h
      refine lv_iload_n hx hb dX10_factor_27 rfl (lv_at hl 0 rfl) ?_
      refine lv_bipush (v := 100) hx hb dX10_factor_28 (by decide) ?_
      refine lv_icmp_ne (tgt := 40) hx hb dX10_factor_30 (by decide) (fun c_30 => ?_) (fun c_30 => ?_)
      · refine lv_aload_n hx hb dX10_factor_40 rfl (lv_at hl 1 rfl) ?_
        refine r_get C h 0 rfl (Cn := RX10) (T := TX10) (N := 50) rfl hinX10 37 (by decide) (index := 153) (ref := "ScaleHouseModel") wd4 rfl (v := .long gl) rfl dX10_factor_41 ?_
        exact r_lret C h hr hlk (Nat.zero_le _) (Nat.zero_le _) ((nI (j + 1)), (-1), (nI op)) (by rw [show pFa t a n gd gl S k = .inr (gl, j + 1) from by rw [pFa, ej, pFj]; simp only [if_neg c_8, if_pos c_14]]; exact ⟨rfl, rfl⟩) (rfl) dX10_factor_44
      · exact absurd c_30 c_8

set_option maxHeartbeats 4000000 in
set_option maxRecDepth 100000 in
theorem lpf_X10_product {p : Program} {l : Launch} {e : Env} {s : State} {m : MethodId} {args : Array Value} {below : List Frame} {meth : Method} {c : Code} {Q : State → Prop} {G : gG} {A : Nat → Prop} (C : gC p m c cX10_product 6 s args wsX10_product RX10 G A) (ad : Nat → Nat) (I : Nat → Int32) (F : Nat → Nat → Int32) (rw : Nat) (gd gl : Int64) (N : Nat) (t : Nat → Int32) (a n : Nat) (hN : a + n ≤ N) (hN2 : N ≤ 2400) (fr lo : Nat) (u : Int32 × Int32 × Int32) (v : Int64) (hq : ¬ u.2.1 = -1) (k9 : ∀ (H : Heap) (locs : List Loc) (ls : Array Slot), gS G A s (pO G ad (upd (upd (upd (upd (upd I 31 (nI a)) 32 (nI n)) 33 u.1) 34 u.2.1) 35 u.2.2) F rw gd gl N t) H locs → lv_has ls 6 [(1, .long v)] → W p l e (gR (fr + 1) (lo + 30) 0 0) s m args below meth c H locs 0 0 Q (F0 m 97 ls [])) (H : Heap) (locs : List Loc) (ls : Array Slot) (h : gS G A s (pO G ad (upd (upd (upd (upd (upd I 31 (nI a)) 32 (nI n)) 33 u.1) 34 u.2.1) 35 u.2.2) F rw gd gl N t) H locs) (hl : lv_has ls 6 [(0, .ref (ad 0)), (1, .long v)]) : W p l e (gR (fr + 1) (lo + 30) 0 0) s m args below meth c H locs 0 0 Q (F0 m 5 ls []) := by
  have hx := C.1.1.1
  have hb := C.1.1.2.1
  have wd0 : Cond.fieldLink RX10 129 "ScaleHouseModel" "fault" "I" ∈ wsX10_product := by decide +kernel
  have hinX10 : ∀ w ∈ wsX100, w ∈ wsX10_product := fun _ h => List.mem_cons_of_mem _ (List.mem_append_right _ h)
  refine lv_aload_n hx hb dX10_product_5 rfl (lv_at hl 0 rfl) ?_
  refine r_get C h 0 rfl (Cn := RX10) (T := TX10) (N := 50) rfl hinX10 34 (by decide) (index := 129) (ref := "ScaleHouseModel") wd0 rfl (v := .int u.2.1) rfl dX10_product_6 ?_
  refine lv_iconst (v := -1) hx hb dX10_product_9 (by decide) ?_
  refine lv_icmp_ne (tgt := 97) hx hb dX10_product_10 (by decide) (fun c_10 => ?_) (fun c_10 => ?_)
  · exact k9 _ _ ls h (lv_sub hl [1] rfl)
  · exact absurd c_10 hq

set_option maxHeartbeats 4000000 in
set_option maxRecDepth 100000 in
theorem lp_X10_product {p : Program} {l : Launch} {e : Env} {s : State} {m : MethodId} {args : Array Value} {below : List Frame} {meth : Method} {c : Code} {Q : State → Prop} {G : gG} {A : Nat → Prop} (C : gC p m c cX10_product 6 s args wsX10_product RX10 G A) (ad : Nat → Nat) (I : Nat → Int32) (F : Nat → Nat → Int32) (rw : Nat) (gd gl : Int64) (N : Nat) (t : Nat → Int32) (a n : Nat) (hN : a + n ≤ N) (hN2 : N ≤ 2400) (F9 : Nat → PZ) (fr lo op : Nat) (hfr : 2 ≤ fr) (hlo : 60 ≤ lo) (hF : ∀ k, k ≤ n → cM l yX10_factor wsX10_factor fr lo 0 0 G [.ref (ad 0)] (pO G ad (upd (upd (upd (upd (upd I 31 (nI a)) 32 (nI n)) 33 (nI k)) 34 (-1)) 35 (nI op)) F rw gd gl N t) (qL G (S := Int32 × Int32 × Int32) (fun r u => pQ op (F9 k) r u) (fun u => pO G ad (upd (upd (upd (upd (upd I 31 (nI a)) 32 (nI n)) 33 u.1) 34 u.2.1) 35 u.2.2) F rw gd gl N t))) (hFB : ∀ k, k ≤ n → pB n k (F9 k)) (Z : PZ) (kx : ∀ (v : Int64) (u : Int32 × Int32 × Int32) (H : Heap) (locs : List Loc) (ls : Array Slot), pQ op Z v u → gS G A s (pO G ad (upd (upd (upd (upd (upd I 31 (nI a)) 32 (nI n)) 33 u.1) 34 u.2.1) 35 u.2.2) F rw gd gl N t) H locs → lv_has ls 6 [(1, .long v)] → W p l e (gR (fr + 1) (lo + 30) 0 0) s m args below meth c H locs 0 0 Q (F0 m 97 ls [])) :
    ∀ (r : Nat) (v : Int64) (k : Nat) (H : Heap) (locs : List Loc) (ls : Array Slot), (n - k < r) → (k ≤ n) → (pPl t a n F9 r v k = Z) →  gS G A s (pO G ad (upd (upd (upd (upd (upd I 31 (nI a)) 32 (nI n)) 33 (nI k)) 34 (-1)) 35 (nI op)) F rw gd gl N t) H locs → lv_has ls 6 [(0, .ref (ad 0)), (1, .long v)] → W p l e (gR (fr + 1) (lo + 30) 0 0) s m args below meth c H locs 0 0 Q (F0 m 5 ls []) := by
  have hx := C.1.1.1
  have hb := C.1.1.2.1
  have wd0 : Cond.fieldLink RX10 129 "ScaleHouseModel" "fault" "I" ∈ wsX10_product := by decide +kernel
  have hinX10 : ∀ w ∈ wsX100, w ∈ wsX10_product := fun _ h => List.mem_cons_of_mem _ (List.mem_append_right _ h)
  have wd1 : Cond.fieldLink RX10 120 "ScaleHouseModel" "at" "I" ∈ wsX10_product := by decide +kernel
  intro r
  induction r with
  | zero =>
    intro v k H locs ls hf hk hZ h hl
    exact absurd hf (Nat.not_lt_zero _)
  | succ r ih =>
    intro v k H locs ls hf hk hZ h hl
    refine lv_aload_n hx hb dX10_product_5 rfl (lv_at hl 0 rfl) ?_
    refine r_get C h 0 rfl (Cn := RX10) (T := TX10) (N := 50) rfl hinX10 34 (by decide) (index := 129) (ref := "ScaleHouseModel") wd0 rfl (v := .int (-1)) rfl dX10_product_6 ?_
    refine lv_iconst (v := -1) hx hb dX10_product_9 (by decide) ?_
    refine lv_icmp_ne (tgt := 97) hx hb dX10_product_10 (by decide) (fun c_10 => ?_) (fun c_10 => ?_)
    · exact absurd c_10 (by decide)
    · refine lv_aload_n hx hb dX10_product_13 rfl (lv_at hl 0 rfl) ?_
      have hp : List.Perm (pO G ad (upd (upd (upd (upd (upd I 31 (nI a)) 32 (nI n)) 33 (nI k)) 34 (-1)) 35 (nI op)) F rw gd gl N t : va_W) ([((ad 0), .inr (10, [.int (I 0), .ref (ad 1), .ref (ad 2), .ref (ad 3), .ref (ad 4), .ref (ad 5), .ref (ad 6), .ref (ad 7), .ref (ad 8), .ref (ad 9), .ref (ad 10), .ref (ad 11), .ref (ad 12), .ref (ad 13), .ref (ad 14), .ref (ad 15), .ref (ad 16), .ref (ad 17), .ref (ad 18), .ref (ad 19), .ref (ad 20), .ref (ad 21), .ref (ad 22), .int (I 23), .int (I 24), .int (I 25), .int (I 26), .int (I 27), .int (I 28), .int (I 29), .ref rw, .int (nI a), .int (nI n), .int (nI k), .int (-1), .int (nI op), .long gd, .long gl, .ref (ad 38), .ref (ad 39), .ref (ad 40), .ref (ad 41), .ref (ad 42), .ref (ad 43), .int (I 44), .int (I 45), .int (I 46), .int (I 47), .int (I 48), .int (I 49)])), (rw, .inl (G.2.2 0, N, .inl t))] ++ []) := pm 2 rfl [0, 1] (by decide +kernel) rfl
      refine k_i C h hp (r_runV C h hp 0 rfl rfl (As := []) (rest := []) (m_look l G ad I F rw gd gl N t a n hN hN2 k (-1) (nI op) (by omega)) (cwV 0 C.1.1.2.2.2.2 gX10_product_X10_look rfl rfl rfl (by decide +kernel) ⟨by simp only [gR]; omega, by simp only [gR]; omega⟩) rfl hl.1 (Nat.le_of_ble_eq_true rfl) dX10_product_14 ⟨Nat.le_of_ble_eq_true rfl, Nat.le_of_ble_eq_true rfl⟩) (fun r_1 u_2 H locs hw_3 h => ?_)
      subst hw_3
      have hgj := lk_ge t a n k (by omega)
      have hsj := lk_lk t a n k (by omega)
      generalize ej : lk t a n k = j at h hgj hsj ⊢
      have h : gS G A s (pO G ad (upd (upd (upd (upd (upd I 31 (nI a)) 32 (nI n)) 33 (nI j)) 34 (-1)) 35 (nI op)) F rw gd gl N t) H locs := h
      refine W.widen (k := 0) (n := 0) (Nat.le_of_ble_eq_true rfl) (Nat.le_of_ble_eq_true rfl) ?_
      refine lv_bipush (v := 42) hx hb dX10_product_17 (by decide) ?_
      refine lv_icmp_eq (tgt := 31) hx hb dX10_product_19 (by decide) (fun c_19 => ?_) (fun c_19 => ?_)
      · have hjn := lkV_lt c_19 (by decide)
        refine lv_aload_n hx hb dX10_product_31 rfl (lv_at hl 0 rfl) ?_
        have hp : List.Perm (pO G ad (upd (upd (upd (upd (upd I 31 (nI a)) 32 (nI n)) 33 (nI j)) 34 (-1)) 35 (nI op)) F rw gd gl N t : va_W) ([((ad 0), .inr (10, [.int (I 0), .ref (ad 1), .ref (ad 2), .ref (ad 3), .ref (ad 4), .ref (ad 5), .ref (ad 6), .ref (ad 7), .ref (ad 8), .ref (ad 9), .ref (ad 10), .ref (ad 11), .ref (ad 12), .ref (ad 13), .ref (ad 14), .ref (ad 15), .ref (ad 16), .ref (ad 17), .ref (ad 18), .ref (ad 19), .ref (ad 20), .ref (ad 21), .ref (ad 22), .int (I 23), .int (I 24), .int (I 25), .int (I 26), .int (I 27), .int (I 28), .int (I 29), .ref rw, .int (nI a), .int (nI n), .int (nI j), .int (-1), .int (nI op), .long gd, .long gl, .ref (ad 38), .ref (ad 39), .ref (ad 40), .ref (ad 41), .ref (ad 42), .ref (ad 43), .int (I 44), .int (I 45), .int (I 46), .int (I 47), .int (I 48), .int (I 49)])), (rw, .inl (G.2.2 0, N, .inl t))] ++ []) := pm 2 rfl [0, 1] (by decide +kernel) rfl
        refine k_i C h hp (r_runV C h hp 0 rfl rfl (As := []) (rest := []) (m_look l G ad I F rw gd gl N t a n hN hN2 j (-1) (nI op) (by omega)) (cwV 0 C.1.1.2.2.2.2 gX10_product_X10_look rfl rfl rfl (by decide +kernel) ⟨by simp only [gR]; omega, by simp only [gR]; omega⟩) rfl hl.1 (Nat.le_of_ble_eq_true rfl) dX10_product_32 ⟨Nat.le_of_ble_eq_true rfl, Nat.le_of_ble_eq_true rfl⟩) (fun r_4 u_5 H locs hw_6 h => ?_)
        have h : gS G A s (pO G ad (upd (upd (upd (upd (upd I 31 (nI a)) 32 (nI n)) 33 (nI (lk t a n j))) 34 (-1)) 35 (nI op)) F rw gd gl N t) H locs := h
        refine W.widen (k := 0) (n := 0) (Nat.le_of_ble_eq_true rfl) (Nat.le_of_ble_eq_true rfl) ?_
        subst hw_6
        rw [hsj] at h ⊢
        have h : gS G A s (pO G ad (upd (upd (upd (upd (upd I 31 (nI a)) 32 (nI n)) 33 (nI j)) 34 (-1)) 35 (nI op)) F rw gd gl N t) H locs := h
        refine lv_bipush (v := 42) hx hb dX10_product_35 (by decide) ?_
        refine lv_icmp_ne (tgt := 44) hx hb dX10_product_37 (by decide) (fun c_37 => ?_) (fun c_37 => ?_)
        · exact absurd c_19 c_37
        · refine lv_iconst (v := 1) hx hb dX10_product_40 (by decide) ?_
          refine lv_goto (tgt := 45) hx hb dX10_product_41 (by decide) ?_
          refine lv_istore_n (lv' := [(3, .int 1), (0, .ref (ad 0)), (1, .long v)]) hx hb dX10_product_45 rfl hl (by decide) rfl (fun ls hl => ?_)
          refine lv_aload_n hx hb dX10_product_46 rfl (lv_at hl 1 rfl) ?_
          refine lv_dup hx hb dX10_product_47 rfl ?_
          refine r_get C h 0 rfl (Cn := RX10) (T := TX10) (N := 50) rfl hinX10 33 (by decide) (index := 120) (ref := "ScaleHouseModel") wd1 rfl (v := .int (nI j)) rfl dX10_product_48 ?_
          refine lv_iconst (v := 1) hx hb dX10_product_51 (by decide) ?_
          refine lv_iadd hx hb dX10_product_52 ?_
          refine lv_cgi (y := (nI (j + 1))) (nI_1 j) ?_
          refine r_put C h 0 rfl (Cn := RX10) (T := TX10) (N := 50) rfl hinX10 tyX10 tyX10_ok nmX10 33 (by decide) (index := 120) (ref := "ScaleHouseModel") wd1 rfl rfl (v := .int (nI (j + 1))) rfl rfl (show 33 < 50 by decide) dX10_product_53 (fun H locs h => ?_)
          have h : gS G A s (pO G ad (upd (upd (upd (upd (upd I 31 (nI a)) 32 (nI n)) 33 (nI (j + 1))) 34 (-1)) 35 (nI op)) F rw gd gl N t) H locs := h
          refine lv_aload_n hx hb dX10_product_56 rfl (lv_at hl 1 rfl) ?_
          have hp : List.Perm (pO G ad (upd (upd (upd (upd (upd I 31 (nI a)) 32 (nI n)) 33 (nI (j + 1))) 34 (-1)) 35 (nI op)) F rw gd gl N t : va_W) ([((ad 0), .inr (10, [.int (I 0), .ref (ad 1), .ref (ad 2), .ref (ad 3), .ref (ad 4), .ref (ad 5), .ref (ad 6), .ref (ad 7), .ref (ad 8), .ref (ad 9), .ref (ad 10), .ref (ad 11), .ref (ad 12), .ref (ad 13), .ref (ad 14), .ref (ad 15), .ref (ad 16), .ref (ad 17), .ref (ad 18), .ref (ad 19), .ref (ad 20), .ref (ad 21), .ref (ad 22), .int (I 23), .int (I 24), .int (I 25), .int (I 26), .int (I 27), .int (I 28), .int (I 29), .ref rw, .int (nI a), .int (nI n), .int (nI (j + 1)), .int (-1), .int (nI op), .long gd, .long gl, .ref (ad 38), .ref (ad 39), .ref (ad 40), .ref (ad 41), .ref (ad 42), .ref (ad 43), .int (I 44), .int (I 45), .int (I 46), .int (I 47), .int (I 48), .int (I 49)])), (rw, .inl (G.2.2 0, N, .inl t))] ++ []) := pm 2 rfl [0, 1] (by decide +kernel) rfl
          refine k_l C h hp (r_runV C h hp 0 rfl rfl (As := []) (rest := []) (hF (j + 1) (by omega)) (cwV 0 C.1.1.2.2.2.2 gX10_product_X10_factor rfl rfl rfl (by decide +kernel) ⟨by simp only [gR]; omega, by simp only [gR]; omega⟩) rfl hl.1 (Nat.le_of_ble_eq_true rfl) dX10_product_57 ⟨Nat.le_of_ble_eq_true rfl, Nat.le_of_ble_eq_true rfl⟩) (fun w1 u1 H locs hwu1 h => ?_)
          have h : gS G A s (pO G ad (upd (upd (upd (upd (upd I 31 (nI a)) 32 (nI n)) 33 u1.1) 34 u1.2.1) 35 u1.2.2) F rw gd gl N t) H locs := h
          refine W.widen (k := 0) (n := 0) (Nat.le_of_ble_eq_true rfl) (Nat.le_of_ble_eq_true rfl) ?_
          refine lv_lstore (lv' := [(4, .long w1), (3, .int 1), (0, .ref (ad 0)), (1, .long v)]) hx hb dX10_product_60 hl (by decide) rfl (fun ls hl => ?_)
          refine lv_iload_n hx hb dX10_product_62 rfl (lv_at hl 1 rfl) ?_
          refine lv_if_eq (tgt := 73) hx hb dX10_product_63 (by decide) (fun c_63 => ?_) (fun c_63 => ?_)
          · exact absurd c_63 (by decide)
          · refine lv_lload_n hx hb dX10_product_66 rfl (lv_at hl 3 rfl) ?_
            refine lv_lload hx hb dX10_product_67 (lv_at hl 0 rfl) ?_
            refine lv_lmul hx hb dX10_product_69 ?_
            refine lv_goto (tgt := 90) hx hb dX10_product_70 (by decide) ?_
            have hp : List.Perm (pO G ad (upd (upd (upd (upd (upd I 31 (nI a)) 32 (nI n)) 33 u1.1) 34 u1.2.1) 35 u1.2.2) F rw gd gl N t : va_W) ([] ++ ([((ad 0), .inr (10, [.int (I 0), .ref (ad 1), .ref (ad 2), .ref (ad 3), .ref (ad 4), .ref (ad 5), .ref (ad 6), .ref (ad 7), .ref (ad 8), .ref (ad 9), .ref (ad 10), .ref (ad 11), .ref (ad 12), .ref (ad 13), .ref (ad 14), .ref (ad 15), .ref (ad 16), .ref (ad 17), .ref (ad 18), .ref (ad 19), .ref (ad 20), .ref (ad 21), .ref (ad 22), .int (I 23), .int (I 24), .int (I 25), .int (I 26), .int (I 27), .int (I 28), .int (I 29), .ref rw, .int (nI a), .int (nI n), .int u1.1, .int u1.2.1, .int u1.2.2, .long gd, .long gl, .ref (ad 38), .ref (ad 39), .ref (ad 40), .ref (ad 41), .ref (ad 42), .ref (ad 43), .int (I 44), .int (I 45), .int (I 46), .int (I 47), .int (I 48), .int (I 49)])), (rw, .inl (G.2.2 0, N, .inl t))])) := List.Perm.refl _
            refine k_l C h hp (r_runS C h hp (As := [.long (v * w1)]) (rest := []) (m_bound l G (v * w1)) (va_cwS 1 C.1.1.2.2.2.2 gX10_product_X10_bound rfl rfl rfl (by decide +kernel) ⟨by simp only [gR]; omega, by simp only [gR]; omega⟩) rfl hl.1 (Nat.le_of_ble_eq_true rfl) dX10_product_90 ⟨Nat.le_of_ble_eq_true rfl, Nat.le_of_ble_eq_true rfl⟩) (fun r_7 u_8 H locs hw_9 h => ?_)
            have h : gS G A s (pO G ad (upd (upd (upd (upd (upd I 31 (nI a)) 32 (nI n)) 33 u1.1) 34 u1.2.1) 35 u1.2.2) F rw gd gl N t) H locs := h
            refine W.widen (k := 0) (n := 0) (Nat.le_of_ble_eq_true rfl) (Nat.le_of_ble_eq_true rfl) ?_
            rw [mBd_eq] at hw_9
            subst hw_9
            refine lv_lstore_n (lv' := [(1, .long (bd (v * w1))), (4, .long w1), (3, .int 1), (0, .ref (ad 0))]) hx hb dX10_product_93 rfl hl (by decide) rfl (fun ls hl => ?_)
            refine lv_goto (tgt := 5) hx hb dX10_product_94 (by decide) ?_
            rcases hZ1 : F9 (j + 1) with q9 | ⟨w9, k9⟩
            · rw [hZ1] at hwu1; have hq9 : ¬ u1.2.1 = -1 := (by rw [show u1.2.1 = nI q9 from hwu1]; have hb9 := hFB (j + 1) (by omega); rw [hZ1] at hb9; exact nI_ne_m1 (by have hb9 : q9 ≤ n := hb9; omega)); exact lpf_X10_product C ad I F rw gd gl N t a n hN hN2 fr lo u1 _ hq9 (fun H locs ls h hl => kx _ u1 _ _ ls (by rw [show Z = .inl q9 from by rw [← hZ, pPl, ej]; simp only [if_pos c_19, hZ1]]; exact hwu1) h hl) _ _ ls h (lv_sub hl [3, 0] rfl)
            · rw [hZ1] at hwu1; have hb9 := hFB (j + 1) (by omega); rw [hZ1] at hb9; obtain ⟨hv9, hu9⟩ := hwu1; subst hu9; have hv9 : w1 = w9 := hv9; subst hv9; exact ih _ k9 _ _ ls (by have hb9 : j + 1 ≤ k9 ∧ k9 ≤ n := hb9; omega) hb9.2 (by rw [← hZ, pPl, ej]; simp only [if_pos c_19, hZ1]) h (lv_sub hl [3, 0] rfl)
      · refine lv_aload_n hx hb dX10_product_22 rfl (lv_at hl 0 rfl) ?_
        have hp : List.Perm (pO G ad (upd (upd (upd (upd (upd I 31 (nI a)) 32 (nI n)) 33 (nI j)) 34 (-1)) 35 (nI op)) F rw gd gl N t : va_W) ([((ad 0), .inr (10, [.int (I 0), .ref (ad 1), .ref (ad 2), .ref (ad 3), .ref (ad 4), .ref (ad 5), .ref (ad 6), .ref (ad 7), .ref (ad 8), .ref (ad 9), .ref (ad 10), .ref (ad 11), .ref (ad 12), .ref (ad 13), .ref (ad 14), .ref (ad 15), .ref (ad 16), .ref (ad 17), .ref (ad 18), .ref (ad 19), .ref (ad 20), .ref (ad 21), .ref (ad 22), .int (I 23), .int (I 24), .int (I 25), .int (I 26), .int (I 27), .int (I 28), .int (I 29), .ref rw, .int (nI a), .int (nI n), .int (nI j), .int (-1), .int (nI op), .long gd, .long gl, .ref (ad 38), .ref (ad 39), .ref (ad 40), .ref (ad 41), .ref (ad 42), .ref (ad 43), .int (I 44), .int (I 45), .int (I 46), .int (I 47), .int (I 48), .int (I 49)])), (rw, .inl (G.2.2 0, N, .inl t))] ++ []) := pm 2 rfl [0, 1] (by decide +kernel) rfl
        refine k_i C h hp (r_runV C h hp 0 rfl rfl (As := []) (rest := []) (m_look l G ad I F rw gd gl N t a n hN hN2 j (-1) (nI op) (by omega)) (cwV 0 C.1.1.2.2.2.2 gX10_product_X10_look rfl rfl rfl (by decide +kernel) ⟨by simp only [gR]; omega, by simp only [gR]; omega⟩) rfl hl.1 (Nat.le_of_ble_eq_true rfl) dX10_product_23 ⟨Nat.le_of_ble_eq_true rfl, Nat.le_of_ble_eq_true rfl⟩) (fun r_10 u_11 H locs hw_12 h => ?_)
        have h : gS G A s (pO G ad (upd (upd (upd (upd (upd I 31 (nI a)) 32 (nI n)) 33 (nI (lk t a n j))) 34 (-1)) 35 (nI op)) F rw gd gl N t) H locs := h
        refine W.widen (k := 0) (n := 0) (Nat.le_of_ble_eq_true rfl) (Nat.le_of_ble_eq_true rfl) ?_
        subst hw_12
        rw [hsj] at h ⊢
        have h : gS G A s (pO G ad (upd (upd (upd (upd (upd I 31 (nI a)) 32 (nI n)) 33 (nI j)) 34 (-1)) 35 (nI op)) F rw gd gl N t) H locs := h
        refine lv_bipush (v := 47) hx hb dX10_product_26 (by decide) ?_
        refine lv_icmp_ne (tgt := 97) hx hb dX10_product_28 (by decide) (fun c_28 => ?_) (fun c_28 => ?_)
        · exact kx v (nI j, -1, nI op) _ _ ls (by rw [← hZ, pPl, ej]; simp only [if_neg c_19, if_neg c_28]; exact ⟨rfl, rfl⟩) h (lv_sub hl [1] rfl)
        · have hjn := lkV_lt c_28 (by decide)
          refine lv_aload_n hx hb dX10_product_31 rfl (lv_at hl 0 rfl) ?_
          have hp : List.Perm (pO G ad (upd (upd (upd (upd (upd I 31 (nI a)) 32 (nI n)) 33 (nI j)) 34 (-1)) 35 (nI op)) F rw gd gl N t : va_W) ([((ad 0), .inr (10, [.int (I 0), .ref (ad 1), .ref (ad 2), .ref (ad 3), .ref (ad 4), .ref (ad 5), .ref (ad 6), .ref (ad 7), .ref (ad 8), .ref (ad 9), .ref (ad 10), .ref (ad 11), .ref (ad 12), .ref (ad 13), .ref (ad 14), .ref (ad 15), .ref (ad 16), .ref (ad 17), .ref (ad 18), .ref (ad 19), .ref (ad 20), .ref (ad 21), .ref (ad 22), .int (I 23), .int (I 24), .int (I 25), .int (I 26), .int (I 27), .int (I 28), .int (I 29), .ref rw, .int (nI a), .int (nI n), .int (nI j), .int (-1), .int (nI op), .long gd, .long gl, .ref (ad 38), .ref (ad 39), .ref (ad 40), .ref (ad 41), .ref (ad 42), .ref (ad 43), .int (I 44), .int (I 45), .int (I 46), .int (I 47), .int (I 48), .int (I 49)])), (rw, .inl (G.2.2 0, N, .inl t))] ++ []) := pm 2 rfl [0, 1] (by decide +kernel) rfl
          refine k_i C h hp (r_runV C h hp 0 rfl rfl (As := []) (rest := []) (m_look l G ad I F rw gd gl N t a n hN hN2 j (-1) (nI op) (by omega)) (cwV 0 C.1.1.2.2.2.2 gX10_product_X10_look rfl rfl rfl (by decide +kernel) ⟨by simp only [gR]; omega, by simp only [gR]; omega⟩) rfl hl.1 (Nat.le_of_ble_eq_true rfl) dX10_product_32 ⟨Nat.le_of_ble_eq_true rfl, Nat.le_of_ble_eq_true rfl⟩) (fun r_13 u_14 H locs hw_15 h => ?_)
          have h : gS G A s (pO G ad (upd (upd (upd (upd (upd I 31 (nI a)) 32 (nI n)) 33 (nI (lk t a n j))) 34 (-1)) 35 (nI op)) F rw gd gl N t) H locs := h
          refine W.widen (k := 0) (n := 0) (Nat.le_of_ble_eq_true rfl) (Nat.le_of_ble_eq_true rfl) ?_
          subst hw_15
          rw [hsj] at h ⊢
          have h : gS G A s (pO G ad (upd (upd (upd (upd (upd I 31 (nI a)) 32 (nI n)) 33 (nI j)) 34 (-1)) 35 (nI op)) F rw gd gl N t) H locs := h
          refine lv_bipush (v := 42) hx hb dX10_product_35 (by decide) ?_
          refine lv_icmp_ne (tgt := 44) hx hb dX10_product_37 (by decide) (fun c_37 => ?_) (fun c_37 => ?_)
          · refine lv_iconst (v := 0) hx hb dX10_product_44 (by decide) ?_
            refine lv_istore_n (lv' := [(3, .int 0), (0, .ref (ad 0)), (1, .long v)]) hx hb dX10_product_45 rfl hl (by decide) rfl (fun ls hl => ?_)
            refine lv_aload_n hx hb dX10_product_46 rfl (lv_at hl 1 rfl) ?_
            refine lv_dup hx hb dX10_product_47 rfl ?_
            refine r_get C h 0 rfl (Cn := RX10) (T := TX10) (N := 50) rfl hinX10 33 (by decide) (index := 120) (ref := "ScaleHouseModel") wd1 rfl (v := .int (nI j)) rfl dX10_product_48 ?_
            refine lv_iconst (v := 1) hx hb dX10_product_51 (by decide) ?_
            refine lv_iadd hx hb dX10_product_52 ?_
            refine lv_cgi (y := (nI (j + 1))) (nI_1 j) ?_
            refine r_put C h 0 rfl (Cn := RX10) (T := TX10) (N := 50) rfl hinX10 tyX10 tyX10_ok nmX10 33 (by decide) (index := 120) (ref := "ScaleHouseModel") wd1 rfl rfl (v := .int (nI (j + 1))) rfl rfl (show 33 < 50 by decide) dX10_product_53 (fun H locs h => ?_)
            have h : gS G A s (pO G ad (upd (upd (upd (upd (upd I 31 (nI a)) 32 (nI n)) 33 (nI (j + 1))) 34 (-1)) 35 (nI op)) F rw gd gl N t) H locs := h
            refine lv_aload_n hx hb dX10_product_56 rfl (lv_at hl 1 rfl) ?_
            have hp : List.Perm (pO G ad (upd (upd (upd (upd (upd I 31 (nI a)) 32 (nI n)) 33 (nI (j + 1))) 34 (-1)) 35 (nI op)) F rw gd gl N t : va_W) ([((ad 0), .inr (10, [.int (I 0), .ref (ad 1), .ref (ad 2), .ref (ad 3), .ref (ad 4), .ref (ad 5), .ref (ad 6), .ref (ad 7), .ref (ad 8), .ref (ad 9), .ref (ad 10), .ref (ad 11), .ref (ad 12), .ref (ad 13), .ref (ad 14), .ref (ad 15), .ref (ad 16), .ref (ad 17), .ref (ad 18), .ref (ad 19), .ref (ad 20), .ref (ad 21), .ref (ad 22), .int (I 23), .int (I 24), .int (I 25), .int (I 26), .int (I 27), .int (I 28), .int (I 29), .ref rw, .int (nI a), .int (nI n), .int (nI (j + 1)), .int (-1), .int (nI op), .long gd, .long gl, .ref (ad 38), .ref (ad 39), .ref (ad 40), .ref (ad 41), .ref (ad 42), .ref (ad 43), .int (I 44), .int (I 45), .int (I 46), .int (I 47), .int (I 48), .int (I 49)])), (rw, .inl (G.2.2 0, N, .inl t))] ++ []) := pm 2 rfl [0, 1] (by decide +kernel) rfl
            refine k_l C h hp (r_runV C h hp 0 rfl rfl (As := []) (rest := []) (hF (j + 1) (by omega)) (cwV 0 C.1.1.2.2.2.2 gX10_product_X10_factor rfl rfl rfl (by decide +kernel) ⟨by simp only [gR]; omega, by simp only [gR]; omega⟩) rfl hl.1 (Nat.le_of_ble_eq_true rfl) dX10_product_57 ⟨Nat.le_of_ble_eq_true rfl, Nat.le_of_ble_eq_true rfl⟩) (fun w1 u1 H locs hwu1 h => ?_)
            have h : gS G A s (pO G ad (upd (upd (upd (upd (upd I 31 (nI a)) 32 (nI n)) 33 u1.1) 34 u1.2.1) 35 u1.2.2) F rw gd gl N t) H locs := h
            refine W.widen (k := 0) (n := 0) (Nat.le_of_ble_eq_true rfl) (Nat.le_of_ble_eq_true rfl) ?_
            refine lv_lstore (lv' := [(4, .long w1), (3, .int 0), (0, .ref (ad 0)), (1, .long v)]) hx hb dX10_product_60 hl (by decide) rfl (fun ls hl => ?_)
            refine lv_iload_n hx hb dX10_product_62 rfl (lv_at hl 1 rfl) ?_
            refine lv_if_eq (tgt := 73) hx hb dX10_product_63 (by decide) (fun c_63 => ?_) (fun c_63 => ?_)
            · refine lv_lload hx hb dX10_product_73 (lv_at hl 0 rfl) ?_
              refine lv_lconst (v := 0) hx hb dX10_product_75 (by decide) ?_
              refine W.lcmp hx hb dX10_product_76 ?_
              refine lv_if_ne (tgt := 84) hx hb dX10_product_77 (by decide) (fun c_77 => ?_) (fun c_77 => ?_)
              · rw [lg_cmp_eq] at c_77
                refine lv_lload_n hx hb dX10_product_84 rfl (lv_at hl 3 rfl) ?_
                refine lv_lload hx hb dX10_product_85 (lv_at hl 0 rfl) ?_
                have hp : List.Perm (pO G ad (upd (upd (upd (upd (upd I 31 (nI a)) 32 (nI n)) 33 u1.1) 34 u1.2.1) 35 u1.2.2) F rw gd gl N t : va_W) ([] ++ ([((ad 0), .inr (10, [.int (I 0), .ref (ad 1), .ref (ad 2), .ref (ad 3), .ref (ad 4), .ref (ad 5), .ref (ad 6), .ref (ad 7), .ref (ad 8), .ref (ad 9), .ref (ad 10), .ref (ad 11), .ref (ad 12), .ref (ad 13), .ref (ad 14), .ref (ad 15), .ref (ad 16), .ref (ad 17), .ref (ad 18), .ref (ad 19), .ref (ad 20), .ref (ad 21), .ref (ad 22), .int (I 23), .int (I 24), .int (I 25), .int (I 26), .int (I 27), .int (I 28), .int (I 29), .ref rw, .int (nI a), .int (nI n), .int u1.1, .int u1.2.1, .int u1.2.2, .long gd, .long gl, .ref (ad 38), .ref (ad 39), .ref (ad 40), .ref (ad 41), .ref (ad 42), .ref (ad 43), .int (I 44), .int (I 45), .int (I 46), .int (I 47), .int (I 48), .int (I 49)])), (rw, .inl (G.2.2 0, N, .inl t))])) := List.Perm.refl _
                refine k_l C h hp (r_runS C h hp (As := [.long v, .long w1]) (rest := []) (j_floorDiv l G v w1 (by assumption)) (va_cwS 2 C.1.1.2.2.2.2 gX10_product_J9_floorDiv_f86c9 rfl rfl rfl (by decide +kernel) ⟨by simp only [gR]; omega, by simp only [gR]; omega⟩) rfl hl.1 (Nat.le_of_ble_eq_true rfl) dX10_product_87 ⟨Nat.le_of_ble_eq_true rfl, Nat.le_of_ble_eq_true rfl⟩) (fun r_16 u_17 H locs hw_18 h => ?_)
                have h : gS G A s (pO G ad (upd (upd (upd (upd (upd I 31 (nI a)) 32 (nI n)) 33 u1.1) 34 u1.2.1) 35 u1.2.2) F rw gd gl N t) H locs := h
                refine W.widen (k := 0) (n := 0) (Nat.le_of_ble_eq_true rfl) (Nat.le_of_ble_eq_true rfl) ?_
                subst hw_18
                have hp : List.Perm (pO G ad (upd (upd (upd (upd (upd I 31 (nI a)) 32 (nI n)) 33 u1.1) 34 u1.2.1) 35 u1.2.2) F rw gd gl N t : va_W) ([] ++ ([((ad 0), .inr (10, [.int (I 0), .ref (ad 1), .ref (ad 2), .ref (ad 3), .ref (ad 4), .ref (ad 5), .ref (ad 6), .ref (ad 7), .ref (ad 8), .ref (ad 9), .ref (ad 10), .ref (ad 11), .ref (ad 12), .ref (ad 13), .ref (ad 14), .ref (ad 15), .ref (ad 16), .ref (ad 17), .ref (ad 18), .ref (ad 19), .ref (ad 20), .ref (ad 21), .ref (ad 22), .int (I 23), .int (I 24), .int (I 25), .int (I 26), .int (I 27), .int (I 28), .int (I 29), .ref rw, .int (nI a), .int (nI n), .int u1.1, .int u1.2.1, .int u1.2.2, .long gd, .long gl, .ref (ad 38), .ref (ad 39), .ref (ad 40), .ref (ad 41), .ref (ad 42), .ref (ad 43), .int (I 44), .int (I 45), .int (I 46), .int (I 47), .int (I 48), .int (I 49)])), (rw, .inl (G.2.2 0, N, .inl t))])) := List.Perm.refl _
                refine k_l C h hp (r_runS C h hp (As := [.long (fdv v w1)]) (rest := []) (m_bound l G (fdv v w1)) (va_cwS 1 C.1.1.2.2.2.2 gX10_product_X10_bound rfl rfl rfl (by decide +kernel) ⟨by simp only [gR]; omega, by simp only [gR]; omega⟩) rfl hl.1 (Nat.le_of_ble_eq_true rfl) dX10_product_90 ⟨Nat.le_of_ble_eq_true rfl, Nat.le_of_ble_eq_true rfl⟩) (fun r_19 u_20 H locs hw_21 h => ?_)
                have h : gS G A s (pO G ad (upd (upd (upd (upd (upd I 31 (nI a)) 32 (nI n)) 33 u1.1) 34 u1.2.1) 35 u1.2.2) F rw gd gl N t) H locs := h
                refine W.widen (k := 0) (n := 0) (Nat.le_of_ble_eq_true rfl) (Nat.le_of_ble_eq_true rfl) ?_
                rw [mBd_eq] at hw_21
                subst hw_21
                refine lv_lstore_n (lv' := [(1, .long (bd (fdv v w1))), (4, .long w1), (3, .int 0), (0, .ref (ad 0))]) hx hb dX10_product_93 rfl hl (by decide) rfl (fun ls hl => ?_)
                refine lv_goto (tgt := 5) hx hb dX10_product_94 (by decide) ?_
                rcases hZ1 : F9 (j + 1) with q9 | ⟨w9, k9⟩
                · rw [hZ1] at hwu1; have hq9 : ¬ u1.2.1 = -1 := (by rw [show u1.2.1 = nI q9 from hwu1]; have hb9 := hFB (j + 1) (by omega); rw [hZ1] at hb9; exact nI_ne_m1 (by have hb9 : q9 ≤ n := hb9; omega)); exact lpf_X10_product C ad I F rw gd gl N t a n hN hN2 fr lo u1 _ hq9 (fun H locs ls h hl => kx _ u1 _ _ ls (by rw [show Z = .inl q9 from by rw [← hZ, pPl, ej]; simp only [if_neg c_19, if_pos c_28, hZ1, if_neg c_77]]; exact hwu1) h hl) _ _ ls h (lv_sub hl [3, 0] rfl)
                · rw [hZ1] at hwu1; have hb9 := hFB (j + 1) (by omega); rw [hZ1] at hb9; obtain ⟨hv9, hu9⟩ := hwu1; subst hu9; have hv9 : w1 = w9 := hv9; subst hv9; exact ih _ k9 _ _ ls (by have hb9 : j + 1 ≤ k9 ∧ k9 ≤ n := hb9; omega) hb9.2 (by rw [← hZ, pPl, ej]; simp only [if_neg c_19, if_pos c_28, hZ1, if_neg c_77]) h (lv_sub hl [3, 0] rfl)
              · rw [lg_cmp_eq] at c_77
                refine lv_lconst (v := 0) hx hb dX10_product_80 (by decide) ?_
                refine lv_goto (tgt := 90) hx hb dX10_product_81 (by decide) ?_
                have hp : List.Perm (pO G ad (upd (upd (upd (upd (upd I 31 (nI a)) 32 (nI n)) 33 u1.1) 34 u1.2.1) 35 u1.2.2) F rw gd gl N t : va_W) ([] ++ ([((ad 0), .inr (10, [.int (I 0), .ref (ad 1), .ref (ad 2), .ref (ad 3), .ref (ad 4), .ref (ad 5), .ref (ad 6), .ref (ad 7), .ref (ad 8), .ref (ad 9), .ref (ad 10), .ref (ad 11), .ref (ad 12), .ref (ad 13), .ref (ad 14), .ref (ad 15), .ref (ad 16), .ref (ad 17), .ref (ad 18), .ref (ad 19), .ref (ad 20), .ref (ad 21), .ref (ad 22), .int (I 23), .int (I 24), .int (I 25), .int (I 26), .int (I 27), .int (I 28), .int (I 29), .ref rw, .int (nI a), .int (nI n), .int u1.1, .int u1.2.1, .int u1.2.2, .long gd, .long gl, .ref (ad 38), .ref (ad 39), .ref (ad 40), .ref (ad 41), .ref (ad 42), .ref (ad 43), .int (I 44), .int (I 45), .int (I 46), .int (I 47), .int (I 48), .int (I 49)])), (rw, .inl (G.2.2 0, N, .inl t))])) := List.Perm.refl _
                refine k_l C h hp (r_runS C h hp (As := [.long 0]) (rest := []) (m_bound l G 0) (va_cwS 1 C.1.1.2.2.2.2 gX10_product_X10_bound rfl rfl rfl (by decide +kernel) ⟨by simp only [gR]; omega, by simp only [gR]; omega⟩) rfl hl.1 (Nat.le_of_ble_eq_true rfl) dX10_product_90 ⟨Nat.le_of_ble_eq_true rfl, Nat.le_of_ble_eq_true rfl⟩) (fun r_22 u_23 H locs hw_24 h => ?_)
                have h : gS G A s (pO G ad (upd (upd (upd (upd (upd I 31 (nI a)) 32 (nI n)) 33 u1.1) 34 u1.2.1) 35 u1.2.2) F rw gd gl N t) H locs := h
                refine W.widen (k := 0) (n := 0) (Nat.le_of_ble_eq_true rfl) (Nat.le_of_ble_eq_true rfl) ?_
                rw [mBd_eq] at hw_24
                subst hw_24
                refine lv_lstore_n (lv' := [(1, .long (bd 0)), (4, .long w1), (3, .int 0), (0, .ref (ad 0))]) hx hb dX10_product_93 rfl hl (by decide) rfl (fun ls hl => ?_)
                refine lv_goto (tgt := 5) hx hb dX10_product_94 (by decide) ?_
                rcases hZ1 : F9 (j + 1) with q9 | ⟨w9, k9⟩
                · rw [hZ1] at hwu1; have hq9 : ¬ u1.2.1 = -1 := (by rw [show u1.2.1 = nI q9 from hwu1]; have hb9 := hFB (j + 1) (by omega); rw [hZ1] at hb9; exact nI_ne_m1 (by have hb9 : q9 ≤ n := hb9; omega)); exact lpf_X10_product C ad I F rw gd gl N t a n hN hN2 fr lo u1 _ hq9 (fun H locs ls h hl => kx _ u1 _ _ ls (by rw [show Z = .inl q9 from by rw [← hZ, pPl, ej]; simp only [if_neg c_19, if_pos c_28, hZ1, if_pos c_77]]; exact hwu1) h hl) _ _ ls h (lv_sub hl [3, 0] rfl)
                · rw [hZ1] at hwu1; have hb9 := hFB (j + 1) (by omega); rw [hZ1] at hb9; obtain ⟨hv9, hu9⟩ := hwu1; subst hu9; have hv9 : w1 = w9 := hv9; subst hv9; exact ih _ k9 _ _ ls (by have hb9 : j + 1 ≤ k9 ∧ k9 ≤ n := hb9; omega) hb9.2 (by rw [← hZ, pPl, ej]; simp only [if_neg c_19, if_pos c_28, hZ1, if_pos c_77]) h (lv_sub hl [3, 0] rfl)
            · exact absurd c_63 (by decide)
          · exact absurd c_37 c_19

set_option maxHeartbeats 4000000 in
set_option maxRecDepth 100000 in
theorem m_product (l : Launch) (G : gG) (ad : Nat → Nat) (I : Nat → Int32) (F : Nat → Nat → Int32) (rw : Nat) (gd gl : Int64) (N : Nat) (t : Nat → Int32) (a n : Nat) (hN : a + n ≤ N) (hN2 : N ≤ 2400) (F9 : Nat → PZ) (fr lo op : Nat) (hfr : 2 ≤ fr) (hlo : 60 ≤ lo) (hF : ∀ k, k ≤ n → cM l yX10_factor wsX10_factor fr lo 0 0 G [.ref (ad 0)] (pO G ad (upd (upd (upd (upd (upd I 31 (nI a)) 32 (nI n)) 33 (nI k)) 34 (-1)) 35 (nI op)) F rw gd gl N t) (qL G (S := Int32 × Int32 × Int32) (fun r u => pQ op (F9 k) r u) (fun u => pO G ad (upd (upd (upd (upd (upd I 31 (nI a)) 32 (nI n)) 33 u.1) 34 u.2.1) 35 u.2.2) F rw gd gl N t))) (hFB : ∀ k, k ≤ n → pB n k (F9 k)) (k : Nat) (hk : k ≤ n) : cM l yX10_product wsX10_product (fr + 1) (lo + 30) (0) (0) G [.ref (ad 0)] (pO G ad (upd (upd (upd (upd (upd I 31 (nI a)) 32 (nI n)) 33 (nI k)) 34 (-1)) 35 (nI op)) F rw gd gl N t) (qL G (S := Int32 × Int32 × Int32) (fun r u => pQ op (pPr t a n F9 k) r u) (fun u => pO G ad (upd (upd (upd (upd (upd I 31 (nI a)) 32 (nI n)) 33 u.1) 34 u.2.1) 35 u.2.2) F rw gd gl N t)) := by
  refine o_M (cc := cX10_product) (maxL := 6) (ret := (some .long)) (own := RX10) (by decide +kernel) rfl rfl (Nat.le_of_ble_eq_true rfl) ?_
  intro p e s m below meth c A ls H locs hA C h hr hlk hnm hl
  have hx := C.1.1.1
  have hb := C.1.1.2.1
  have hl : lv_has ls 6 [(0, .ref (ad 0))] := hl
  refine lv_aload_n hx hb dX10_product_0 rfl (lv_at hl 0 rfl) ?_
  have hp : List.Perm (pO G ad (upd (upd (upd (upd (upd I 31 (nI a)) 32 (nI n)) 33 (nI k)) 34 (-1)) 35 (nI op)) F rw gd gl N t : va_W) ([((ad 0), .inr (10, [.int (I 0), .ref (ad 1), .ref (ad 2), .ref (ad 3), .ref (ad 4), .ref (ad 5), .ref (ad 6), .ref (ad 7), .ref (ad 8), .ref (ad 9), .ref (ad 10), .ref (ad 11), .ref (ad 12), .ref (ad 13), .ref (ad 14), .ref (ad 15), .ref (ad 16), .ref (ad 17), .ref (ad 18), .ref (ad 19), .ref (ad 20), .ref (ad 21), .ref (ad 22), .int (I 23), .int (I 24), .int (I 25), .int (I 26), .int (I 27), .int (I 28), .int (I 29), .ref rw, .int (nI a), .int (nI n), .int (nI k), .int (-1), .int (nI op), .long gd, .long gl, .ref (ad 38), .ref (ad 39), .ref (ad 40), .ref (ad 41), .ref (ad 42), .ref (ad 43), .int (I 44), .int (I 45), .int (I 46), .int (I 47), .int (I 48), .int (I 49)])), (rw, .inl (G.2.2 0, N, .inl t))] ++ []) := pm 2 rfl [0, 1] (by decide +kernel) rfl
  refine k_l C h hp (r_runV C h hp 0 rfl rfl (As := []) (rest := []) (hF k hk) (cwV 0 C.1.1.2.2.2.2 gX10_product_X10_factor rfl rfl rfl (by decide +kernel) ⟨by simp only [gR]; omega, by simp only [gR]; omega⟩) rfl hl.1 (Nat.le_of_ble_eq_true rfl) dX10_product_1 ⟨Nat.le_of_ble_eq_true rfl, Nat.le_of_ble_eq_true rfl⟩) (fun w1 u1 H locs hwu1 h => ?_)
  have h : gS G A s (pO G ad (upd (upd (upd (upd (upd I 31 (nI a)) 32 (nI n)) 33 u1.1) 34 u1.2.1) 35 u1.2.2) F rw gd gl N t) H locs := h
  refine W.widen (k := 0) (n := 0) (Nat.le_of_ble_eq_true rfl) (Nat.le_of_ble_eq_true rfl) ?_
  refine lv_lstore_n (lv' := [(1, .long w1), (0, .ref (ad 0))]) hx hb dX10_product_4 rfl hl (by decide) rfl (fun ls hl => ?_)
  rcases hZ1 : F9 k with q9 | ⟨w9, k9⟩
  · rw [hZ1] at hwu1; have hq9 : ¬ u1.2.1 = -1 := (by rw [show u1.2.1 = nI q9 from hwu1]; have hb9 := hFB k hk; rw [hZ1] at hb9; exact nI_ne_m1 (by have hb9 : q9 ≤ n := hb9; omega)); refine lpf_X10_product C ad I F rw gd gl N t a n hN hN2 fr lo u1 _ hq9 (fun H locs ls h hl => ?_) _ _ ls h (lv_sub hl [1, 0] rfl); refine lv_lload_n hx hb dX10_product_97 rfl (lv_at hl 0 rfl) ?_; exact r_lret C h hr hlk (Nat.zero_le _) (Nat.zero_le _) u1 (by rw [pPr, hZ1]; exact hwu1) rfl dX10_product_98
  · rw [hZ1] at hwu1; have hb9 := hFB k hk; rw [hZ1] at hb9; obtain ⟨hv9, hu9⟩ := hwu1; subst hu9; have hv9 : w1 = w9 := hv9; subst hv9; refine lp_X10_product C ad I F rw gd gl N t a n hN hN2 F9 fr lo op hfr hlo hF hFB (pPl t a n F9 (n + 1) w1 k9) (fun v u H locs ls hQ h hl => ?_) (n + 1) w1 k9 _ _ ls (by omega) hb9.2 rfl h (lv_sub hl [1, 0] rfl); refine lv_lload_n hx hb dX10_product_97 rfl (lv_at hl 0 rfl) ?_; exact r_lret C h hr hlk (Nat.zero_le _) (Nat.zero_le _) u (by rw [pPr, hZ1]; exact hQ) rfl dX10_product_98

set_option maxHeartbeats 4000000 in
set_option maxRecDepth 100000 in
theorem lpf_X10_sums {p : Program} {l : Launch} {e : Env} {s : State} {m : MethodId} {args : Array Value} {below : List Frame} {meth : Method} {c : Code} {Q : State → Prop} {G : gG} {A : Nat → Prop} (C : gC p m c cX10_sums 6 s args wsX10_sums RX10 G A) (ad : Nat → Nat) (I : Nat → Int32) (F : Nat → Nat → Int32) (rw : Nat) (gd gl : Int64) (N : Nat) (t : Nat → Int32) (a n : Nat) (hN : a + n ≤ N) (hN2 : N ≤ 2400) (fr lo : Nat) (u : Int32 × Int32 × Int32) (v : Int64) (hq : ¬ u.2.1 = -1) (k9 : ∀ (H : Heap) (locs : List Loc) (ls : Array Slot), gS G A s (pO G ad (upd (upd (upd (upd (upd I 31 (nI a)) 32 (nI n)) 33 u.1) 34 u.2.1) 35 u.2.2) F rw gd gl N t) H locs → lv_has ls 6 [(1, .long v)] → W p l e (gR (fr + 1) (lo + 30) 0 0) s m args below meth c H locs 0 0 Q (F0 m 84 ls [])) (H : Heap) (locs : List Loc) (ls : Array Slot) (h : gS G A s (pO G ad (upd (upd (upd (upd (upd I 31 (nI a)) 32 (nI n)) 33 u.1) 34 u.2.1) 35 u.2.2) F rw gd gl N t) H locs) (hl : lv_has ls 6 [(0, .ref (ad 0)), (1, .long v)]) : W p l e (gR (fr + 1) (lo + 30) 0 0) s m args below meth c H locs 0 0 Q (F0 m 5 ls []) := by
  have hx := C.1.1.1
  have hb := C.1.1.2.1
  have wd0 : Cond.fieldLink RX10 129 "ScaleHouseModel" "fault" "I" ∈ wsX10_sums := by decide +kernel
  have hinX10 : ∀ w ∈ wsX100, w ∈ wsX10_sums := fun _ h => List.mem_cons_of_mem _ (List.mem_append_right _ h)
  refine lv_aload_n hx hb dX10_sums_5 rfl (lv_at hl 0 rfl) ?_
  refine r_get C h 0 rfl (Cn := RX10) (T := TX10) (N := 50) rfl hinX10 34 (by decide) (index := 129) (ref := "ScaleHouseModel") wd0 rfl (v := .int u.2.1) rfl dX10_sums_6 ?_
  refine lv_iconst (v := -1) hx hb dX10_sums_9 (by decide) ?_
  refine lv_icmp_ne (tgt := 84) hx hb dX10_sums_10 (by decide) (fun c_10 => ?_) (fun c_10 => ?_)
  · exact k9 _ _ ls h (lv_sub hl [1] rfl)
  · exact absurd c_10 hq

set_option maxHeartbeats 4000000 in
set_option maxRecDepth 100000 in
theorem lp_X10_sums {p : Program} {l : Launch} {e : Env} {s : State} {m : MethodId} {args : Array Value} {below : List Frame} {meth : Method} {c : Code} {Q : State → Prop} {G : gG} {A : Nat → Prop} (C : gC p m c cX10_sums 6 s args wsX10_sums RX10 G A) (ad : Nat → Nat) (I : Nat → Int32) (F : Nat → Nat → Int32) (rw : Nat) (gd gl : Int64) (N : Nat) (t : Nat → Int32) (a n : Nat) (hN : a + n ≤ N) (hN2 : N ≤ 2400) (F9 : Nat → PZ) (fr lo op : Nat) (hfr : 2 ≤ fr) (hlo : 60 ≤ lo) (hF : ∀ k, k ≤ n → cM l yX10_product wsX10_product fr lo 0 0 G [.ref (ad 0)] (pO G ad (upd (upd (upd (upd (upd I 31 (nI a)) 32 (nI n)) 33 (nI k)) 34 (-1)) 35 (nI op)) F rw gd gl N t) (qL G (S := Int32 × Int32 × Int32) (fun r u => pQ op (F9 k) r u) (fun u => pO G ad (upd (upd (upd (upd (upd I 31 (nI a)) 32 (nI n)) 33 u.1) 34 u.2.1) 35 u.2.2) F rw gd gl N t))) (hFB : ∀ k, k ≤ n → pB n k (F9 k)) (Z : PZ) (kx : ∀ (v : Int64) (u : Int32 × Int32 × Int32) (H : Heap) (locs : List Loc) (ls : Array Slot), pQ op Z v u → gS G A s (pO G ad (upd (upd (upd (upd (upd I 31 (nI a)) 32 (nI n)) 33 u.1) 34 u.2.1) 35 u.2.2) F rw gd gl N t) H locs → lv_has ls 6 [(1, .long v)] → W p l e (gR (fr + 1) (lo + 30) 0 0) s m args below meth c H locs 0 0 Q (F0 m 84 ls [])) :
    ∀ (r : Nat) (v : Int64) (k : Nat) (H : Heap) (locs : List Loc) (ls : Array Slot), (n - k < r) → (k ≤ n) → (pSl t a n F9 r v k = Z) →  gS G A s (pO G ad (upd (upd (upd (upd (upd I 31 (nI a)) 32 (nI n)) 33 (nI k)) 34 (-1)) 35 (nI op)) F rw gd gl N t) H locs → lv_has ls 6 [(0, .ref (ad 0)), (1, .long v)] → W p l e (gR (fr + 1) (lo + 30) 0 0) s m args below meth c H locs 0 0 Q (F0 m 5 ls []) := by
  have hx := C.1.1.1
  have hb := C.1.1.2.1
  have wd0 : Cond.fieldLink RX10 129 "ScaleHouseModel" "fault" "I" ∈ wsX10_sums := by decide +kernel
  have hinX10 : ∀ w ∈ wsX100, w ∈ wsX10_sums := fun _ h => List.mem_cons_of_mem _ (List.mem_append_right _ h)
  have wd1 : Cond.fieldLink RX10 120 "ScaleHouseModel" "at" "I" ∈ wsX10_sums := by decide +kernel
  intro r
  induction r with
  | zero =>
    intro v k H locs ls hf hk hZ h hl
    exact absurd hf (Nat.not_lt_zero _)
  | succ r ih =>
    intro v k H locs ls hf hk hZ h hl
    refine lv_aload_n hx hb dX10_sums_5 rfl (lv_at hl 0 rfl) ?_
    refine r_get C h 0 rfl (Cn := RX10) (T := TX10) (N := 50) rfl hinX10 34 (by decide) (index := 129) (ref := "ScaleHouseModel") wd0 rfl (v := .int (-1)) rfl dX10_sums_6 ?_
    refine lv_iconst (v := -1) hx hb dX10_sums_9 (by decide) ?_
    refine lv_icmp_ne (tgt := 84) hx hb dX10_sums_10 (by decide) (fun c_10 => ?_) (fun c_10 => ?_)
    · exact absurd c_10 (by decide)
    · refine lv_aload_n hx hb dX10_sums_13 rfl (lv_at hl 0 rfl) ?_
      have hp : List.Perm (pO G ad (upd (upd (upd (upd (upd I 31 (nI a)) 32 (nI n)) 33 (nI k)) 34 (-1)) 35 (nI op)) F rw gd gl N t : va_W) ([((ad 0), .inr (10, [.int (I 0), .ref (ad 1), .ref (ad 2), .ref (ad 3), .ref (ad 4), .ref (ad 5), .ref (ad 6), .ref (ad 7), .ref (ad 8), .ref (ad 9), .ref (ad 10), .ref (ad 11), .ref (ad 12), .ref (ad 13), .ref (ad 14), .ref (ad 15), .ref (ad 16), .ref (ad 17), .ref (ad 18), .ref (ad 19), .ref (ad 20), .ref (ad 21), .ref (ad 22), .int (I 23), .int (I 24), .int (I 25), .int (I 26), .int (I 27), .int (I 28), .int (I 29), .ref rw, .int (nI a), .int (nI n), .int (nI k), .int (-1), .int (nI op), .long gd, .long gl, .ref (ad 38), .ref (ad 39), .ref (ad 40), .ref (ad 41), .ref (ad 42), .ref (ad 43), .int (I 44), .int (I 45), .int (I 46), .int (I 47), .int (I 48), .int (I 49)])), (rw, .inl (G.2.2 0, N, .inl t))] ++ []) := pm 2 rfl [0, 1] (by decide +kernel) rfl
      refine k_i C h hp (r_runV C h hp 0 rfl rfl (As := []) (rest := []) (m_look l G ad I F rw gd gl N t a n hN hN2 k (-1) (nI op) (by omega)) (cwV 0 C.1.1.2.2.2.2 gX10_sums_X10_look rfl rfl rfl (by decide +kernel) ⟨by simp only [gR]; omega, by simp only [gR]; omega⟩) rfl hl.1 (Nat.le_of_ble_eq_true rfl) dX10_sums_14 ⟨Nat.le_of_ble_eq_true rfl, Nat.le_of_ble_eq_true rfl⟩) (fun r_1 u_2 H locs hw_3 h => ?_)
      subst hw_3
      have hgj := lk_ge t a n k (by omega)
      have hsj := lk_lk t a n k (by omega)
      generalize ej : lk t a n k = j at h hgj hsj ⊢
      have h : gS G A s (pO G ad (upd (upd (upd (upd (upd I 31 (nI a)) 32 (nI n)) 33 (nI j)) 34 (-1)) 35 (nI op)) F rw gd gl N t) H locs := h
      refine W.widen (k := 0) (n := 0) (Nat.le_of_ble_eq_true rfl) (Nat.le_of_ble_eq_true rfl) ?_
      refine lv_bipush (v := 43) hx hb dX10_sums_17 (by decide) ?_
      refine lv_icmp_eq (tgt := 31) hx hb dX10_sums_19 (by decide) (fun c_19 => ?_) (fun c_19 => ?_)
      · have hjn := lkV_lt c_19 (by decide)
        refine lv_aload_n hx hb dX10_sums_31 rfl (lv_at hl 0 rfl) ?_
        have hp : List.Perm (pO G ad (upd (upd (upd (upd (upd I 31 (nI a)) 32 (nI n)) 33 (nI j)) 34 (-1)) 35 (nI op)) F rw gd gl N t : va_W) ([((ad 0), .inr (10, [.int (I 0), .ref (ad 1), .ref (ad 2), .ref (ad 3), .ref (ad 4), .ref (ad 5), .ref (ad 6), .ref (ad 7), .ref (ad 8), .ref (ad 9), .ref (ad 10), .ref (ad 11), .ref (ad 12), .ref (ad 13), .ref (ad 14), .ref (ad 15), .ref (ad 16), .ref (ad 17), .ref (ad 18), .ref (ad 19), .ref (ad 20), .ref (ad 21), .ref (ad 22), .int (I 23), .int (I 24), .int (I 25), .int (I 26), .int (I 27), .int (I 28), .int (I 29), .ref rw, .int (nI a), .int (nI n), .int (nI j), .int (-1), .int (nI op), .long gd, .long gl, .ref (ad 38), .ref (ad 39), .ref (ad 40), .ref (ad 41), .ref (ad 42), .ref (ad 43), .int (I 44), .int (I 45), .int (I 46), .int (I 47), .int (I 48), .int (I 49)])), (rw, .inl (G.2.2 0, N, .inl t))] ++ []) := pm 2 rfl [0, 1] (by decide +kernel) rfl
        refine k_i C h hp (r_runV C h hp 0 rfl rfl (As := []) (rest := []) (m_look l G ad I F rw gd gl N t a n hN hN2 j (-1) (nI op) (by omega)) (cwV 0 C.1.1.2.2.2.2 gX10_sums_X10_look rfl rfl rfl (by decide +kernel) ⟨by simp only [gR]; omega, by simp only [gR]; omega⟩) rfl hl.1 (Nat.le_of_ble_eq_true rfl) dX10_sums_32 ⟨Nat.le_of_ble_eq_true rfl, Nat.le_of_ble_eq_true rfl⟩) (fun r_4 u_5 H locs hw_6 h => ?_)
        have h : gS G A s (pO G ad (upd (upd (upd (upd (upd I 31 (nI a)) 32 (nI n)) 33 (nI (lk t a n j))) 34 (-1)) 35 (nI op)) F rw gd gl N t) H locs := h
        refine W.widen (k := 0) (n := 0) (Nat.le_of_ble_eq_true rfl) (Nat.le_of_ble_eq_true rfl) ?_
        subst hw_6
        rw [hsj] at h ⊢
        have h : gS G A s (pO G ad (upd (upd (upd (upd (upd I 31 (nI a)) 32 (nI n)) 33 (nI j)) 34 (-1)) 35 (nI op)) F rw gd gl N t) H locs := h
        refine lv_bipush (v := 43) hx hb dX10_sums_35 (by decide) ?_
        refine lv_icmp_ne (tgt := 44) hx hb dX10_sums_37 (by decide) (fun c_37 => ?_) (fun c_37 => ?_)
        · exact absurd c_19 c_37
        · refine lv_iconst (v := 1) hx hb dX10_sums_40 (by decide) ?_
          refine lv_goto (tgt := 45) hx hb dX10_sums_41 (by decide) ?_
          refine lv_istore_n (lv' := [(3, .int 1), (0, .ref (ad 0)), (1, .long v)]) hx hb dX10_sums_45 rfl hl (by decide) rfl (fun ls hl => ?_)
          refine lv_aload_n hx hb dX10_sums_46 rfl (lv_at hl 1 rfl) ?_
          refine lv_dup hx hb dX10_sums_47 rfl ?_
          refine r_get C h 0 rfl (Cn := RX10) (T := TX10) (N := 50) rfl hinX10 33 (by decide) (index := 120) (ref := "ScaleHouseModel") wd1 rfl (v := .int (nI j)) rfl dX10_sums_48 ?_
          refine lv_iconst (v := 1) hx hb dX10_sums_51 (by decide) ?_
          refine lv_iadd hx hb dX10_sums_52 ?_
          refine lv_cgi (y := (nI (j + 1))) (nI_1 j) ?_
          refine r_put C h 0 rfl (Cn := RX10) (T := TX10) (N := 50) rfl hinX10 tyX10 tyX10_ok nmX10 33 (by decide) (index := 120) (ref := "ScaleHouseModel") wd1 rfl rfl (v := .int (nI (j + 1))) rfl rfl (show 33 < 50 by decide) dX10_sums_53 (fun H locs h => ?_)
          have h : gS G A s (pO G ad (upd (upd (upd (upd (upd I 31 (nI a)) 32 (nI n)) 33 (nI (j + 1))) 34 (-1)) 35 (nI op)) F rw gd gl N t) H locs := h
          refine lv_aload_n hx hb dX10_sums_56 rfl (lv_at hl 1 rfl) ?_
          have hp : List.Perm (pO G ad (upd (upd (upd (upd (upd I 31 (nI a)) 32 (nI n)) 33 (nI (j + 1))) 34 (-1)) 35 (nI op)) F rw gd gl N t : va_W) ([((ad 0), .inr (10, [.int (I 0), .ref (ad 1), .ref (ad 2), .ref (ad 3), .ref (ad 4), .ref (ad 5), .ref (ad 6), .ref (ad 7), .ref (ad 8), .ref (ad 9), .ref (ad 10), .ref (ad 11), .ref (ad 12), .ref (ad 13), .ref (ad 14), .ref (ad 15), .ref (ad 16), .ref (ad 17), .ref (ad 18), .ref (ad 19), .ref (ad 20), .ref (ad 21), .ref (ad 22), .int (I 23), .int (I 24), .int (I 25), .int (I 26), .int (I 27), .int (I 28), .int (I 29), .ref rw, .int (nI a), .int (nI n), .int (nI (j + 1)), .int (-1), .int (nI op), .long gd, .long gl, .ref (ad 38), .ref (ad 39), .ref (ad 40), .ref (ad 41), .ref (ad 42), .ref (ad 43), .int (I 44), .int (I 45), .int (I 46), .int (I 47), .int (I 48), .int (I 49)])), (rw, .inl (G.2.2 0, N, .inl t))] ++ []) := pm 2 rfl [0, 1] (by decide +kernel) rfl
          refine k_l C h hp (r_runV C h hp 0 rfl rfl (As := []) (rest := []) (hF (j + 1) (by omega)) (cwV 0 C.1.1.2.2.2.2 gX10_sums_X10_product rfl rfl rfl (by decide +kernel) ⟨by simp only [gR]; omega, by simp only [gR]; omega⟩) rfl hl.1 (Nat.le_of_ble_eq_true rfl) dX10_sums_57 ⟨Nat.le_of_ble_eq_true rfl, Nat.le_of_ble_eq_true rfl⟩) (fun w1 u1 H locs hwu1 h => ?_)
          have h : gS G A s (pO G ad (upd (upd (upd (upd (upd I 31 (nI a)) 32 (nI n)) 33 u1.1) 34 u1.2.1) 35 u1.2.2) F rw gd gl N t) H locs := h
          refine W.widen (k := 0) (n := 0) (Nat.le_of_ble_eq_true rfl) (Nat.le_of_ble_eq_true rfl) ?_
          refine lv_lstore (lv' := [(4, .long w1), (3, .int 1), (0, .ref (ad 0)), (1, .long v)]) hx hb dX10_sums_60 hl (by decide) rfl (fun ls hl => ?_)
          refine lv_iload_n hx hb dX10_sums_62 rfl (lv_at hl 1 rfl) ?_
          refine lv_if_eq (tgt := 73) hx hb dX10_sums_63 (by decide) (fun c_63 => ?_) (fun c_63 => ?_)
          · exact absurd c_63 (by decide)
          · refine lv_lload_n hx hb dX10_sums_66 rfl (lv_at hl 3 rfl) ?_
            refine lv_lload hx hb dX10_sums_67 (lv_at hl 0 rfl) ?_
            refine lv_ladd hx hb dX10_sums_69 ?_
            refine lv_goto (tgt := 77) hx hb dX10_sums_70 (by decide) ?_
            have hp : List.Perm (pO G ad (upd (upd (upd (upd (upd I 31 (nI a)) 32 (nI n)) 33 u1.1) 34 u1.2.1) 35 u1.2.2) F rw gd gl N t : va_W) ([] ++ ([((ad 0), .inr (10, [.int (I 0), .ref (ad 1), .ref (ad 2), .ref (ad 3), .ref (ad 4), .ref (ad 5), .ref (ad 6), .ref (ad 7), .ref (ad 8), .ref (ad 9), .ref (ad 10), .ref (ad 11), .ref (ad 12), .ref (ad 13), .ref (ad 14), .ref (ad 15), .ref (ad 16), .ref (ad 17), .ref (ad 18), .ref (ad 19), .ref (ad 20), .ref (ad 21), .ref (ad 22), .int (I 23), .int (I 24), .int (I 25), .int (I 26), .int (I 27), .int (I 28), .int (I 29), .ref rw, .int (nI a), .int (nI n), .int u1.1, .int u1.2.1, .int u1.2.2, .long gd, .long gl, .ref (ad 38), .ref (ad 39), .ref (ad 40), .ref (ad 41), .ref (ad 42), .ref (ad 43), .int (I 44), .int (I 45), .int (I 46), .int (I 47), .int (I 48), .int (I 49)])), (rw, .inl (G.2.2 0, N, .inl t))])) := List.Perm.refl _
            refine k_l C h hp (r_runS C h hp (As := [.long (v + w1)]) (rest := []) (m_bound l G (v + w1)) (va_cwS 1 C.1.1.2.2.2.2 gX10_sums_X10_bound rfl rfl rfl (by decide +kernel) ⟨by simp only [gR]; omega, by simp only [gR]; omega⟩) rfl hl.1 (Nat.le_of_ble_eq_true rfl) dX10_sums_77 ⟨Nat.le_of_ble_eq_true rfl, Nat.le_of_ble_eq_true rfl⟩) (fun r_7 u_8 H locs hw_9 h => ?_)
            have h : gS G A s (pO G ad (upd (upd (upd (upd (upd I 31 (nI a)) 32 (nI n)) 33 u1.1) 34 u1.2.1) 35 u1.2.2) F rw gd gl N t) H locs := h
            refine W.widen (k := 0) (n := 0) (Nat.le_of_ble_eq_true rfl) (Nat.le_of_ble_eq_true rfl) ?_
            rw [mBd_eq] at hw_9
            subst hw_9
            refine lv_lstore_n (lv' := [(1, .long (bd (v + w1))), (4, .long w1), (3, .int 1), (0, .ref (ad 0))]) hx hb dX10_sums_80 rfl hl (by decide) rfl (fun ls hl => ?_)
            refine lv_goto (tgt := 5) hx hb dX10_sums_81 (by decide) ?_
            rcases hZ1 : F9 (j + 1) with q9 | ⟨w9, k9⟩
            · rw [hZ1] at hwu1; have hq9 : ¬ u1.2.1 = -1 := (by rw [show u1.2.1 = nI q9 from hwu1]; have hb9 := hFB (j + 1) (by omega); rw [hZ1] at hb9; exact nI_ne_m1 (by have hb9 : q9 ≤ n := hb9; omega)); exact lpf_X10_sums C ad I F rw gd gl N t a n hN hN2 fr lo u1 _ hq9 (fun H locs ls h hl => kx _ u1 _ _ ls (by rw [show Z = .inl q9 from by rw [← hZ, pSl, ej]; simp only [if_pos c_19, hZ1]]; exact hwu1) h hl) _ _ ls h (lv_sub hl [3, 0] rfl)
            · rw [hZ1] at hwu1; have hb9 := hFB (j + 1) (by omega); rw [hZ1] at hb9; obtain ⟨hv9, hu9⟩ := hwu1; subst hu9; have hv9 : w1 = w9 := hv9; subst hv9; exact ih _ k9 _ _ ls (by have hb9 : j + 1 ≤ k9 ∧ k9 ≤ n := hb9; omega) hb9.2 (by rw [← hZ, pSl, ej]; simp only [if_pos c_19, hZ1]) h (lv_sub hl [3, 0] rfl)
      · refine lv_aload_n hx hb dX10_sums_22 rfl (lv_at hl 0 rfl) ?_
        have hp : List.Perm (pO G ad (upd (upd (upd (upd (upd I 31 (nI a)) 32 (nI n)) 33 (nI j)) 34 (-1)) 35 (nI op)) F rw gd gl N t : va_W) ([((ad 0), .inr (10, [.int (I 0), .ref (ad 1), .ref (ad 2), .ref (ad 3), .ref (ad 4), .ref (ad 5), .ref (ad 6), .ref (ad 7), .ref (ad 8), .ref (ad 9), .ref (ad 10), .ref (ad 11), .ref (ad 12), .ref (ad 13), .ref (ad 14), .ref (ad 15), .ref (ad 16), .ref (ad 17), .ref (ad 18), .ref (ad 19), .ref (ad 20), .ref (ad 21), .ref (ad 22), .int (I 23), .int (I 24), .int (I 25), .int (I 26), .int (I 27), .int (I 28), .int (I 29), .ref rw, .int (nI a), .int (nI n), .int (nI j), .int (-1), .int (nI op), .long gd, .long gl, .ref (ad 38), .ref (ad 39), .ref (ad 40), .ref (ad 41), .ref (ad 42), .ref (ad 43), .int (I 44), .int (I 45), .int (I 46), .int (I 47), .int (I 48), .int (I 49)])), (rw, .inl (G.2.2 0, N, .inl t))] ++ []) := pm 2 rfl [0, 1] (by decide +kernel) rfl
        refine k_i C h hp (r_runV C h hp 0 rfl rfl (As := []) (rest := []) (m_look l G ad I F rw gd gl N t a n hN hN2 j (-1) (nI op) (by omega)) (cwV 0 C.1.1.2.2.2.2 gX10_sums_X10_look rfl rfl rfl (by decide +kernel) ⟨by simp only [gR]; omega, by simp only [gR]; omega⟩) rfl hl.1 (Nat.le_of_ble_eq_true rfl) dX10_sums_23 ⟨Nat.le_of_ble_eq_true rfl, Nat.le_of_ble_eq_true rfl⟩) (fun r_10 u_11 H locs hw_12 h => ?_)
        have h : gS G A s (pO G ad (upd (upd (upd (upd (upd I 31 (nI a)) 32 (nI n)) 33 (nI (lk t a n j))) 34 (-1)) 35 (nI op)) F rw gd gl N t) H locs := h
        refine W.widen (k := 0) (n := 0) (Nat.le_of_ble_eq_true rfl) (Nat.le_of_ble_eq_true rfl) ?_
        subst hw_12
        rw [hsj] at h ⊢
        have h : gS G A s (pO G ad (upd (upd (upd (upd (upd I 31 (nI a)) 32 (nI n)) 33 (nI j)) 34 (-1)) 35 (nI op)) F rw gd gl N t) H locs := h
        refine lv_bipush (v := 45) hx hb dX10_sums_26 (by decide) ?_
        refine lv_icmp_ne (tgt := 84) hx hb dX10_sums_28 (by decide) (fun c_28 => ?_) (fun c_28 => ?_)
        · exact kx v (nI j, -1, nI op) _ _ ls (by rw [← hZ, pSl, ej]; simp only [if_neg c_19, if_neg c_28]; exact ⟨rfl, rfl⟩) h (lv_sub hl [1] rfl)
        · have hjn := lkV_lt c_28 (by decide)
          refine lv_aload_n hx hb dX10_sums_31 rfl (lv_at hl 0 rfl) ?_
          have hp : List.Perm (pO G ad (upd (upd (upd (upd (upd I 31 (nI a)) 32 (nI n)) 33 (nI j)) 34 (-1)) 35 (nI op)) F rw gd gl N t : va_W) ([((ad 0), .inr (10, [.int (I 0), .ref (ad 1), .ref (ad 2), .ref (ad 3), .ref (ad 4), .ref (ad 5), .ref (ad 6), .ref (ad 7), .ref (ad 8), .ref (ad 9), .ref (ad 10), .ref (ad 11), .ref (ad 12), .ref (ad 13), .ref (ad 14), .ref (ad 15), .ref (ad 16), .ref (ad 17), .ref (ad 18), .ref (ad 19), .ref (ad 20), .ref (ad 21), .ref (ad 22), .int (I 23), .int (I 24), .int (I 25), .int (I 26), .int (I 27), .int (I 28), .int (I 29), .ref rw, .int (nI a), .int (nI n), .int (nI j), .int (-1), .int (nI op), .long gd, .long gl, .ref (ad 38), .ref (ad 39), .ref (ad 40), .ref (ad 41), .ref (ad 42), .ref (ad 43), .int (I 44), .int (I 45), .int (I 46), .int (I 47), .int (I 48), .int (I 49)])), (rw, .inl (G.2.2 0, N, .inl t))] ++ []) := pm 2 rfl [0, 1] (by decide +kernel) rfl
          refine k_i C h hp (r_runV C h hp 0 rfl rfl (As := []) (rest := []) (m_look l G ad I F rw gd gl N t a n hN hN2 j (-1) (nI op) (by omega)) (cwV 0 C.1.1.2.2.2.2 gX10_sums_X10_look rfl rfl rfl (by decide +kernel) ⟨by simp only [gR]; omega, by simp only [gR]; omega⟩) rfl hl.1 (Nat.le_of_ble_eq_true rfl) dX10_sums_32 ⟨Nat.le_of_ble_eq_true rfl, Nat.le_of_ble_eq_true rfl⟩) (fun r_13 u_14 H locs hw_15 h => ?_)
          have h : gS G A s (pO G ad (upd (upd (upd (upd (upd I 31 (nI a)) 32 (nI n)) 33 (nI (lk t a n j))) 34 (-1)) 35 (nI op)) F rw gd gl N t) H locs := h
          refine W.widen (k := 0) (n := 0) (Nat.le_of_ble_eq_true rfl) (Nat.le_of_ble_eq_true rfl) ?_
          subst hw_15
          rw [hsj] at h ⊢
          have h : gS G A s (pO G ad (upd (upd (upd (upd (upd I 31 (nI a)) 32 (nI n)) 33 (nI j)) 34 (-1)) 35 (nI op)) F rw gd gl N t) H locs := h
          refine lv_bipush (v := 43) hx hb dX10_sums_35 (by decide) ?_
          refine lv_icmp_ne (tgt := 44) hx hb dX10_sums_37 (by decide) (fun c_37 => ?_) (fun c_37 => ?_)
          · refine lv_iconst (v := 0) hx hb dX10_sums_44 (by decide) ?_
            refine lv_istore_n (lv' := [(3, .int 0), (0, .ref (ad 0)), (1, .long v)]) hx hb dX10_sums_45 rfl hl (by decide) rfl (fun ls hl => ?_)
            refine lv_aload_n hx hb dX10_sums_46 rfl (lv_at hl 1 rfl) ?_
            refine lv_dup hx hb dX10_sums_47 rfl ?_
            refine r_get C h 0 rfl (Cn := RX10) (T := TX10) (N := 50) rfl hinX10 33 (by decide) (index := 120) (ref := "ScaleHouseModel") wd1 rfl (v := .int (nI j)) rfl dX10_sums_48 ?_
            refine lv_iconst (v := 1) hx hb dX10_sums_51 (by decide) ?_
            refine lv_iadd hx hb dX10_sums_52 ?_
            refine lv_cgi (y := (nI (j + 1))) (nI_1 j) ?_
            refine r_put C h 0 rfl (Cn := RX10) (T := TX10) (N := 50) rfl hinX10 tyX10 tyX10_ok nmX10 33 (by decide) (index := 120) (ref := "ScaleHouseModel") wd1 rfl rfl (v := .int (nI (j + 1))) rfl rfl (show 33 < 50 by decide) dX10_sums_53 (fun H locs h => ?_)
            have h : gS G A s (pO G ad (upd (upd (upd (upd (upd I 31 (nI a)) 32 (nI n)) 33 (nI (j + 1))) 34 (-1)) 35 (nI op)) F rw gd gl N t) H locs := h
            refine lv_aload_n hx hb dX10_sums_56 rfl (lv_at hl 1 rfl) ?_
            have hp : List.Perm (pO G ad (upd (upd (upd (upd (upd I 31 (nI a)) 32 (nI n)) 33 (nI (j + 1))) 34 (-1)) 35 (nI op)) F rw gd gl N t : va_W) ([((ad 0), .inr (10, [.int (I 0), .ref (ad 1), .ref (ad 2), .ref (ad 3), .ref (ad 4), .ref (ad 5), .ref (ad 6), .ref (ad 7), .ref (ad 8), .ref (ad 9), .ref (ad 10), .ref (ad 11), .ref (ad 12), .ref (ad 13), .ref (ad 14), .ref (ad 15), .ref (ad 16), .ref (ad 17), .ref (ad 18), .ref (ad 19), .ref (ad 20), .ref (ad 21), .ref (ad 22), .int (I 23), .int (I 24), .int (I 25), .int (I 26), .int (I 27), .int (I 28), .int (I 29), .ref rw, .int (nI a), .int (nI n), .int (nI (j + 1)), .int (-1), .int (nI op), .long gd, .long gl, .ref (ad 38), .ref (ad 39), .ref (ad 40), .ref (ad 41), .ref (ad 42), .ref (ad 43), .int (I 44), .int (I 45), .int (I 46), .int (I 47), .int (I 48), .int (I 49)])), (rw, .inl (G.2.2 0, N, .inl t))] ++ []) := pm 2 rfl [0, 1] (by decide +kernel) rfl
            refine k_l C h hp (r_runV C h hp 0 rfl rfl (As := []) (rest := []) (hF (j + 1) (by omega)) (cwV 0 C.1.1.2.2.2.2 gX10_sums_X10_product rfl rfl rfl (by decide +kernel) ⟨by simp only [gR]; omega, by simp only [gR]; omega⟩) rfl hl.1 (Nat.le_of_ble_eq_true rfl) dX10_sums_57 ⟨Nat.le_of_ble_eq_true rfl, Nat.le_of_ble_eq_true rfl⟩) (fun w1 u1 H locs hwu1 h => ?_)
            have h : gS G A s (pO G ad (upd (upd (upd (upd (upd I 31 (nI a)) 32 (nI n)) 33 u1.1) 34 u1.2.1) 35 u1.2.2) F rw gd gl N t) H locs := h
            refine W.widen (k := 0) (n := 0) (Nat.le_of_ble_eq_true rfl) (Nat.le_of_ble_eq_true rfl) ?_
            refine lv_lstore (lv' := [(4, .long w1), (3, .int 0), (0, .ref (ad 0)), (1, .long v)]) hx hb dX10_sums_60 hl (by decide) rfl (fun ls hl => ?_)
            refine lv_iload_n hx hb dX10_sums_62 rfl (lv_at hl 1 rfl) ?_
            refine lv_if_eq (tgt := 73) hx hb dX10_sums_63 (by decide) (fun c_63 => ?_) (fun c_63 => ?_)
            · refine lv_lload_n hx hb dX10_sums_73 rfl (lv_at hl 3 rfl) ?_
              refine lv_lload hx hb dX10_sums_74 (lv_at hl 0 rfl) ?_
              refine lv_lsub hx hb dX10_sums_76 ?_
              have hp : List.Perm (pO G ad (upd (upd (upd (upd (upd I 31 (nI a)) 32 (nI n)) 33 u1.1) 34 u1.2.1) 35 u1.2.2) F rw gd gl N t : va_W) ([] ++ ([((ad 0), .inr (10, [.int (I 0), .ref (ad 1), .ref (ad 2), .ref (ad 3), .ref (ad 4), .ref (ad 5), .ref (ad 6), .ref (ad 7), .ref (ad 8), .ref (ad 9), .ref (ad 10), .ref (ad 11), .ref (ad 12), .ref (ad 13), .ref (ad 14), .ref (ad 15), .ref (ad 16), .ref (ad 17), .ref (ad 18), .ref (ad 19), .ref (ad 20), .ref (ad 21), .ref (ad 22), .int (I 23), .int (I 24), .int (I 25), .int (I 26), .int (I 27), .int (I 28), .int (I 29), .ref rw, .int (nI a), .int (nI n), .int u1.1, .int u1.2.1, .int u1.2.2, .long gd, .long gl, .ref (ad 38), .ref (ad 39), .ref (ad 40), .ref (ad 41), .ref (ad 42), .ref (ad 43), .int (I 44), .int (I 45), .int (I 46), .int (I 47), .int (I 48), .int (I 49)])), (rw, .inl (G.2.2 0, N, .inl t))])) := List.Perm.refl _
              refine k_l C h hp (r_runS C h hp (As := [.long (v - w1)]) (rest := []) (m_bound l G (v - w1)) (va_cwS 1 C.1.1.2.2.2.2 gX10_sums_X10_bound rfl rfl rfl (by decide +kernel) ⟨by simp only [gR]; omega, by simp only [gR]; omega⟩) rfl hl.1 (Nat.le_of_ble_eq_true rfl) dX10_sums_77 ⟨Nat.le_of_ble_eq_true rfl, Nat.le_of_ble_eq_true rfl⟩) (fun r_16 u_17 H locs hw_18 h => ?_)
              have h : gS G A s (pO G ad (upd (upd (upd (upd (upd I 31 (nI a)) 32 (nI n)) 33 u1.1) 34 u1.2.1) 35 u1.2.2) F rw gd gl N t) H locs := h
              refine W.widen (k := 0) (n := 0) (Nat.le_of_ble_eq_true rfl) (Nat.le_of_ble_eq_true rfl) ?_
              rw [mBd_eq] at hw_18
              subst hw_18
              refine lv_lstore_n (lv' := [(1, .long (bd (v - w1))), (4, .long w1), (3, .int 0), (0, .ref (ad 0))]) hx hb dX10_sums_80 rfl hl (by decide) rfl (fun ls hl => ?_)
              refine lv_goto (tgt := 5) hx hb dX10_sums_81 (by decide) ?_
              rcases hZ1 : F9 (j + 1) with q9 | ⟨w9, k9⟩
              · rw [hZ1] at hwu1; have hq9 : ¬ u1.2.1 = -1 := (by rw [show u1.2.1 = nI q9 from hwu1]; have hb9 := hFB (j + 1) (by omega); rw [hZ1] at hb9; exact nI_ne_m1 (by have hb9 : q9 ≤ n := hb9; omega)); exact lpf_X10_sums C ad I F rw gd gl N t a n hN hN2 fr lo u1 _ hq9 (fun H locs ls h hl => kx _ u1 _ _ ls (by rw [show Z = .inl q9 from by rw [← hZ, pSl, ej]; simp only [if_neg c_19, if_pos c_28, hZ1]]; exact hwu1) h hl) _ _ ls h (lv_sub hl [3, 0] rfl)
              · rw [hZ1] at hwu1; have hb9 := hFB (j + 1) (by omega); rw [hZ1] at hb9; obtain ⟨hv9, hu9⟩ := hwu1; subst hu9; have hv9 : w1 = w9 := hv9; subst hv9; exact ih _ k9 _ _ ls (by have hb9 : j + 1 ≤ k9 ∧ k9 ≤ n := hb9; omega) hb9.2 (by rw [← hZ, pSl, ej]; simp only [if_neg c_19, if_pos c_28, hZ1]) h (lv_sub hl [3, 0] rfl)
            · exact absurd c_63 (by decide)
          · exact absurd c_37 c_19

set_option maxHeartbeats 4000000 in
set_option maxRecDepth 100000 in
theorem m_sums (l : Launch) (G : gG) (ad : Nat → Nat) (I : Nat → Int32) (F : Nat → Nat → Int32) (rw : Nat) (gd gl : Int64) (N : Nat) (t : Nat → Int32) (a n : Nat) (hN : a + n ≤ N) (hN2 : N ≤ 2400) (F9 : Nat → PZ) (fr lo op : Nat) (hfr : 2 ≤ fr) (hlo : 60 ≤ lo) (hF : ∀ k, k ≤ n → cM l yX10_product wsX10_product fr lo 0 0 G [.ref (ad 0)] (pO G ad (upd (upd (upd (upd (upd I 31 (nI a)) 32 (nI n)) 33 (nI k)) 34 (-1)) 35 (nI op)) F rw gd gl N t) (qL G (S := Int32 × Int32 × Int32) (fun r u => pQ op (F9 k) r u) (fun u => pO G ad (upd (upd (upd (upd (upd I 31 (nI a)) 32 (nI n)) 33 u.1) 34 u.2.1) 35 u.2.2) F rw gd gl N t))) (hFB : ∀ k, k ≤ n → pB n k (F9 k)) (k : Nat) (hk : k ≤ n) : cM l yX10_sums wsX10_sums (fr + 1) (lo + 30) (0) (0) G [.ref (ad 0)] (pO G ad (upd (upd (upd (upd (upd I 31 (nI a)) 32 (nI n)) 33 (nI k)) 34 (-1)) 35 (nI op)) F rw gd gl N t) (qL G (S := Int32 × Int32 × Int32) (fun r u => pQ op (pSu t a n F9 k) r u) (fun u => pO G ad (upd (upd (upd (upd (upd I 31 (nI a)) 32 (nI n)) 33 u.1) 34 u.2.1) 35 u.2.2) F rw gd gl N t)) := by
  refine o_M (cc := cX10_sums) (maxL := 6) (ret := (some .long)) (own := RX10) (by decide +kernel) rfl rfl (Nat.le_of_ble_eq_true rfl) ?_
  intro p e s m below meth c A ls H locs hA C h hr hlk hnm hl
  have hx := C.1.1.1
  have hb := C.1.1.2.1
  have hl : lv_has ls 6 [(0, .ref (ad 0))] := hl
  refine lv_aload_n hx hb dX10_sums_0 rfl (lv_at hl 0 rfl) ?_
  have hp : List.Perm (pO G ad (upd (upd (upd (upd (upd I 31 (nI a)) 32 (nI n)) 33 (nI k)) 34 (-1)) 35 (nI op)) F rw gd gl N t : va_W) ([((ad 0), .inr (10, [.int (I 0), .ref (ad 1), .ref (ad 2), .ref (ad 3), .ref (ad 4), .ref (ad 5), .ref (ad 6), .ref (ad 7), .ref (ad 8), .ref (ad 9), .ref (ad 10), .ref (ad 11), .ref (ad 12), .ref (ad 13), .ref (ad 14), .ref (ad 15), .ref (ad 16), .ref (ad 17), .ref (ad 18), .ref (ad 19), .ref (ad 20), .ref (ad 21), .ref (ad 22), .int (I 23), .int (I 24), .int (I 25), .int (I 26), .int (I 27), .int (I 28), .int (I 29), .ref rw, .int (nI a), .int (nI n), .int (nI k), .int (-1), .int (nI op), .long gd, .long gl, .ref (ad 38), .ref (ad 39), .ref (ad 40), .ref (ad 41), .ref (ad 42), .ref (ad 43), .int (I 44), .int (I 45), .int (I 46), .int (I 47), .int (I 48), .int (I 49)])), (rw, .inl (G.2.2 0, N, .inl t))] ++ []) := pm 2 rfl [0, 1] (by decide +kernel) rfl
  refine k_l C h hp (r_runV C h hp 0 rfl rfl (As := []) (rest := []) (hF k hk) (cwV 0 C.1.1.2.2.2.2 gX10_sums_X10_product rfl rfl rfl (by decide +kernel) ⟨by simp only [gR]; omega, by simp only [gR]; omega⟩) rfl hl.1 (Nat.le_of_ble_eq_true rfl) dX10_sums_1 ⟨Nat.le_of_ble_eq_true rfl, Nat.le_of_ble_eq_true rfl⟩) (fun w1 u1 H locs hwu1 h => ?_)
  have h : gS G A s (pO G ad (upd (upd (upd (upd (upd I 31 (nI a)) 32 (nI n)) 33 u1.1) 34 u1.2.1) 35 u1.2.2) F rw gd gl N t) H locs := h
  refine W.widen (k := 0) (n := 0) (Nat.le_of_ble_eq_true rfl) (Nat.le_of_ble_eq_true rfl) ?_
  refine lv_lstore_n (lv' := [(1, .long w1), (0, .ref (ad 0))]) hx hb dX10_sums_4 rfl hl (by decide) rfl (fun ls hl => ?_)
  rcases hZ1 : F9 k with q9 | ⟨w9, k9⟩
  · rw [hZ1] at hwu1; have hq9 : ¬ u1.2.1 = -1 := (by rw [show u1.2.1 = nI q9 from hwu1]; have hb9 := hFB k hk; rw [hZ1] at hb9; exact nI_ne_m1 (by have hb9 : q9 ≤ n := hb9; omega)); refine lpf_X10_sums C ad I F rw gd gl N t a n hN hN2 fr lo u1 _ hq9 (fun H locs ls h hl => ?_) _ _ ls h (lv_sub hl [1, 0] rfl); refine lv_lload_n hx hb dX10_sums_84 rfl (lv_at hl 0 rfl) ?_; exact r_lret C h hr hlk (Nat.zero_le _) (Nat.zero_le _) u1 (by rw [pSu, hZ1]; exact hwu1) rfl dX10_sums_85
  · rw [hZ1] at hwu1; have hb9 := hFB k hk; rw [hZ1] at hb9; obtain ⟨hv9, hu9⟩ := hwu1; subst hu9; have hv9 : w1 = w9 := hv9; subst hv9; refine lp_X10_sums C ad I F rw gd gl N t a n hN hN2 F9 fr lo op hfr hlo hF hFB (pSl t a n F9 (n + 1) w1 k9) (fun v u H locs ls hQ h hl => ?_) (n + 1) w1 k9 _ _ ls (by omega) hb9.2 rfl h (lv_sub hl [1, 0] rfl); refine lv_lload_n hx hb dX10_sums_84 rfl (lv_at hl 0 rfl) ?_; exact r_lret C h hr hlk (Nat.zero_le _) (Nat.zero_le _) u (by rw [pSu, hZ1]; exact hQ) rfl dX10_sums_85

set_option maxRecDepth 100000 in
/-- sums at every depth -/
theorem m_sumsAll (l : Launch) (G : gG) (ad : Nat → Nat) (I : Nat → Int32) (F : Nat → Nat → Int32) (rw : Nat) (gd gl : Int64) (N : Nat) (t : Nat → Int32) (a n : Nat) (hN : a + n ≤ N) (hN2 : N ≤ 2400) : ∀ (d op : Nat), op + d = 8 → ∀ k, k ≤ n → cM l yX10_sums wsX10_sums (3 * d + 62) (85 * d + 175) 0 0 G [.ref (ad 0)] (pO G ad (upd (upd (upd (upd (upd I 31 (nI a)) 32 (nI n)) 33 (nI k)) 34 (-1)) 35 (nI op)) F rw gd gl N t) (qL G (S := Int32 × Int32 × Int32) (fun r u => pQ op (pS t a n gd gl (d + 1) k) r u) (fun u => pO G ad (upd (upd (upd (upd (upd I 31 (nI a)) 32 (nI n)) 33 u.1) 34 u.2.1) 35 u.2.2) F rw gd gl N t))
  | 0, op, hd, k, hk => by
    refine m_sums l G ad I F rw gd gl N t a n hN hN2 (pPr t a n (pFa t a n gd gl (pS t a n gd gl 0))) 61 145 op (by omega) (by omega) (fun k hk => ?_) (fun k hk => pPr_B (fun k hk => pFa_B (by omega) (fun k hk h1 => pS_B (by omega) 0 k hk (Or.inl h1)) k hk) k hk) k hk
    refine m_product l G ad I F rw gd gl N t a n hN hN2 (pFa t a n gd gl (pS t a n gd gl 0)) 60 115 op (by omega) (by omega) (fun k hk => ?_) (fun k hk => pFa_B (by omega) (fun k hk h1 => pS_B (by omega) 0 k hk (Or.inl h1)) k hk) k hk
    exact m_factor l G ad I F rw gd gl N t a n hN hN2 (pS t a n gd gl 0) 59 90 op k (by omega) (fun _ _ => rfl) (fun k hk h1 => pS_B (by omega) 0 k hk (Or.inl h1)) (fun z => absurd z (by omega)) hk
  | d + 1, op, hd, k, hk => by
    have e1 : 3 * (d + 1) + 62 = 3 * d + 64 + 1 := by omega
    have e2 : 85 * (d + 1) + 175 = 85 * d + 230 + 30 := by omega
    rw [e1, e2]
    refine m_sums l G ad I F rw gd gl N t a n hN hN2 (pPr t a n (pFa t a n gd gl (pS t a n gd gl (d + 1)))) (3 * d + 64) (85 * d + 230) op (by omega) (by omega) (fun k hk => ?_) (fun k hk => pPr_B (fun k hk => pFa_B (by omega) (fun k hk h1 => pS_B (by omega) (d + 1) k hk (Or.inl h1)) k hk) k hk) k hk
    refine m_product l G ad I F rw gd gl N t a n hN hN2 (pFa t a n gd gl (pS t a n gd gl (d + 1))) (3 * d + 63) (85 * d + 200) op (by omega) (by omega) (fun k hk => ?_) (fun k hk => pFa_B (by omega) (fun k hk h1 => pS_B (by omega) (d + 1) k hk (Or.inl h1)) k hk) k hk
    exact m_factor l G ad I F rw gd gl N t a n hN hN2 (pS t a n gd gl (d + 1)) (3 * d + 62) (85 * d + 175) op k (by omega) (fun z => absurd z (by omega)) (fun k hk h1 => pS_B (by omega) (d + 1) k hk (Or.inl h1)) (fun _ k hk => m_sumsAll l G ad I F rw gd gl N t a n hN hN2 d (op + 1) (by omega) k hk) hk
