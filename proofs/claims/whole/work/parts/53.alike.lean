/-! ===== what the house works out is what the reference works out ===== -/
theorem rg_fo {l0 lf lt fr td : Nat → Int32} {n : Nat} (h : ∀ j, j < n → l0 j = 0 ∧ lf j = fr j ∧ lt j = td j) (day q : Int32) : ∀ (r i : Nat) (b : Int32), i + r = n → n ≤ 100 → (b = -1 ∨ ∃ j, j < i ∧ b = nI j) → rgF l0 lf lt 0 day q r i b = mFo fr td day q r i b
  | 0, _, _, _, _, _ => rfl
  | r + 1, i, b, hi, hn, hb => by
    obtain ⟨h1, h2, h3⟩ := h i (by omega)
    have e : (if l0 i = 0 then (if q < lt i then b else if day < lf i then b else if b = -1 then nI i else if lf i < lf b.toNatClampNeg then b else nI i) else b) = if q < td i then b else if day < fr i then b else if b = -1 then nI i else if fr i < fr b.toNatClampNeg then b else nI i := by
      rw [h1, if_pos rfl, h2, h3]
      by_cases c : b = -1
      · rw [if_pos c, if_pos c]
      · obtain ⟨j, hj, rfl⟩ := hb.resolve_left c
        rw [nI_clamp (by omega), (h j (by omega)).2.1]
    rw [rgF, mFo, e]
    refine rg_fo h day q r (i + 1) _ (by omega) hn ?_
    have hb2 : b = -1 ∨ ∃ j, j < i + 1 ∧ b = nI j := hb.elim Or.inl (fun ⟨j, hj, e⟩ => Or.inr ⟨j, by omega, e⟩)
    split
    · exact hb2
    split
    · exact hb2
    split
    · exact Or.inr ⟨i, by omega, rfl⟩
    split
    · exact hb2
    · exact Or.inr ⟨i, by omega, rfl⟩
def rgP (ep : Nat → Int32) (e : Int32) : Int32 := if e = -1 then 0 else ep e.toNatClampNeg
theorem rg_er {en ef et ep st pa fr td : Nat → Int32} {n : Nat} (h : ∀ j, j < n → en j = st j ∧ ef j = fr j ∧ et j = td j ∧ ep j = pa j ∧ 0 ≤ (fr j).toInt) (stick day q : Int32) : ∀ (r i : Nat) (b u v : Int32), i + r = n → n ≤ 100 → ((b = -1 ∧ u = -1 ∧ v = 0) ∨ ∃ j, j < i ∧ b = nI j ∧ u = fr j ∧ v = pa j) → rgP ep (rgF en ef et stick day q r i b) = mEr st pa fr td stick day q r i u v
  | 0, i, b, u, v, hi, hn, hb => by
    rw [rgF, mEr]
    unfold rgP
    rcases hb with ⟨b1, b2, b3⟩ | ⟨j, hj, b1, b2, b3⟩
    · rw [if_pos b1, b3]
    · rw [if_neg (by rw [b1]; exact nI_ne_m1 (by omega)), b1, b3, nI_clamp (by omega)]
      exact (h j (by omega)).2.2.2.1
  | r + 1, i, b, u, v, hi, hn, hb => by
    obtain ⟨h1, h2, h3, h4, h5⟩ := h i (by omega)
    have keep : (b = -1 ∧ u = -1 ∧ v = 0) ∨ ∃ j, j < i + 1 ∧ b = nI j ∧ u = fr j ∧ v = pa j := hb.elim Or.inl (fun ⟨j, hj, e⟩ => Or.inr ⟨j, by omega, e⟩)
    have take : (nI i = -1 ∧ fr i = -1 ∧ pa i = 0) ∨ ∃ j, j < i + 1 ∧ nI i = nI j ∧ fr i = fr j ∧ pa i = pa j := Or.inr ⟨i, by omega, rfl, rfl, rfl⟩
    have IH := fun b u v hb => rg_er h stick day q r (i + 1) b u v (by omega) hn hb
    rw [rgF, mEr, h1, h2, h3]
    by_cases c1 : st i = stick
    · rw [if_pos c1, if_pos c1]
      by_cases c2 : q < td i
      · rw [if_pos c2, if_pos c2]; exact IH _ _ _ keep
      rw [if_neg c2, if_neg c2]
      by_cases c3 : day < fr i
      · rw [if_pos c3, if_pos c3]; exact IH _ _ _ keep
      rw [if_neg c3, if_neg c3]
      rcases hb with ⟨b1, b2, b3⟩ | ⟨j, hj, b1, b2, b3⟩
      · have c4 : u ≤ fr i := by
          rw [b2, fa_le, show (-1 : Int32).toInt = -1 from rfl]; omega
        rw [if_pos b1, if_pos c4]
        exact IH _ _ _ take
      · have nb : ¬ b = -1 := by rw [b1]; exact nI_ne_m1 (by omega)
        have e2 : ef b.toNatClampNeg = fr j := by rw [b1, nI_clamp (by omega)]; exact (h j (by omega)).2.1
        rw [if_neg nb, e2, b2]
        by_cases c4 : fr i < fr j
        · rw [if_pos c4, if_neg (fun z => absurd c4 (Int32.not_lt.mpr z)), ← b2]; exact IH _ _ _ keep
        · rw [if_neg c4, if_pos (Int32.not_lt.mp c4)]; exact IH _ _ _ take
    · rw [if_neg c1, if_neg c1]; exact IH _ _ _ keep
/-- a worth cut to what a scale may be -/
def clV (v : Int64) : Int64 := if (if v < 1000000 then v else 1000000) < 0 then 0 else (if v < 1000000 then v else 1000000)
theorem clV_n (v : Int64) : ∃ x : Nat, x ≤ 1000000 ∧ clV v = lN x := by
  unfold clV
  by_cases c : (if v < 1000000 then v else 1000000) < 0
  · rw [if_pos c]; exact ⟨0, by omega, rfl⟩
  · rw [if_neg c]
    by_cases c2 : v < 1000000
    · rw [if_pos c2] at c ⊢
      obtain ⟨x, hx, e⟩ := pk_lOf c
      refine ⟨x, ?_, e⟩
      rw [e, show (1000000 : Int64) = lN 1000000 from rfl, pk_lLT hx (by decide)] at c2
      omega
    · rw [if_neg c2]; exact ⟨1000000, Nat.le_refl _, rfl⟩
theorem sc_int (v : Int64) {b : Nat} (hb : b ≤ 100) : (clV v).toInt32 * nI b / 100 = (clV v * (nI b).toInt64 / 100).toInt32 ∧ ∃ k : Nat, k ≤ 1000000 ∧ (clV v).toInt32 * nI b / 100 = nI k := by
  obtain ⟨x, hx, e⟩ := clV_n v
  have h1 : x * b ≤ 1000000 * 100 := Nat.mul_le_mul hx hb
  rw [e, lN_i, pk_mul, nI_l (by omega), lN_mul, show (100 : Int32) = nI 100 from rfl, show (100 : Int64) = lN 100 from rfl, pk_div (by omega) (by decide) (by decide), pk_lDiv (by omega) (by decide) (by decide), lN_i]
  exact ⟨rfl, x * b / 100, by omega, rfl⟩
/-- how the house's rows of logs, laws and errors stand beside the reference's -/
def alR (D : Nat → Nat → Int32) (ng : Nat) (l0 lf lt : Nat → Int32) (nl : Nat) (en ef et ep : Nat → Int32) (ne : Nat) (V : Nat → Int32 → Int32 → Int64) (F : Nat → Nat → Int32) (L : Nat → Nat) : Prop :=
  nl ≤ 20 ∧ ne ≤ 60 ∧ (∀ i, i < ng → (D 0 i = F 10 i ∧ D 1 i = F 11 i ∧ D 2 i = F 12 i ∧ D 3 i = F 13 i ∧ D 4 i = F 14 i) ∧ D 5 i = F 15 i ∧ D 6 i = F 16 i ∧ D 7 i = F 18 i ∧ D 8 i = F 17 i) ∧
  (∀ j, j < nl → l0 j = 0 ∧ lf j = F 4 j ∧ lt j = F 5 j) ∧ (∀ j, j < ne → en j = F 6 j ∧ ef j = F 8 j ∧ et j = F 9 j ∧ ep j = F 7 j ∧ 0 ≤ (F 8 j).toInt) ∧
  (∀ k, k < nl → ∀ d l, lwB d → lwB l → V k d l = mLv F L k d l) ∧ hDr D ng ∧ (∀ i, i < ne → -200 ≤ (ep i).toInt ∧ (ep i).toInt ≤ 200) ∧ ∀ i, i < ng → ∃ b : Nat, b ≤ 90 ∧ D 6 i = nI b
theorem td_eq {D : Nat → Nat → Int32} {ng : Nat} {l0 lf lt : Nat → Int32} {nl : Nat} {en ef et ep : Nat → Int32} {ne : Nat} {V : Nat → Int32 → Int32 → Int64} {F : Nat → Nat → Int32} {L : Nat → Nat} (h : alR D ng l0 lf lt nl en ef et ep ne V F L) {i : Nat} (hi : i < ng) (q : Int32) :
    hTd en ef et ep ne D i q = hTf (F 12 i) (mEr (F 6) (F 7) (F 8) (F 9) (F 11 i) (F 14 i) q ne 0 (-1) 0) (F 15 i) := by
  obtain ⟨h0, h1, h2, h3, h4, -⟩ := h
  obtain ⟨⟨a0, a1, a2, a3, a4⟩, a5, -⟩ := h2 i hi
  have e := rg_er h4 (D 1 i) (D 4 i) q ne 0 (-1) (-1) 0 (Nat.zero_add _) (by omega) (Or.inl ⟨rfl, rfl, rfl⟩)
  unfold hTd
  rw [a1, a4] at e ⊢
  rw [← e, a2, a5]
  unfold rgP
  split <;> rfl
theorem hs_sc {D : Nat → Nat → Int32} {ng : Nat} {l0 lf lt : Nat → Int32} {nl : Nat} {en ef et ep : Nat → Int32} {ne : Nat} {V : Nat → Int32 → Int32 → Int64} {F : Nat → Nat → Int32} {L : Nat → Nat} (h : alR D ng l0 lf lt nl en ef et ep ne V F L) {i : Nat} (hi : i < ng) (q : Int32) :
    hSc l0 lf lt nl en ef et ep ne V D i q = mSc F nl ne L i q ∧ (mSc F nl ne L i q = -1 ∨ ∃ k : Nat, k ≤ 1000000 ∧ mSc F nl ne L i q = nI k) := by
  have ht := td_eq h hi q
  have htb := hTd_b (en := en) (ef := ef) (et := et) (ep := ep) (ne := ne) hi h.2.2.2.2.2.2.1 h.2.1 h.2.2.2.2.2.2.2.1 q
  obtain ⟨h0, h1, h2, h3, h4, h5, h6, h7, h8⟩ := h
  obtain ⟨⟨a0, a1, a2, a3, a4⟩, a5, a6, -⟩ := h2 i hi
  have hl := rg_fo h3 (D 4 i) q nl 0 (-1) (Nat.zero_add _) (by omega) (Or.inl rfl)
  have hl3 := (h6 i hi).2.2
  obtain ⟨b, hb, eb⟩ := h8 i hi
  unfold hSc mSc
  rw [a4] at hl ⊢
  rw [hl]
  by_cases c1 : F 14 i ≤ q
  · rw [if_pos c1, if_pos c1]
    by_cases c2 : mFo (F 4) (F 5) (F 14 i) q nl 0 (-1) = -1
    · rw [if_pos c2, if_pos c2]; exact ⟨rfl, Or.inl rfl⟩
    · rw [if_neg c2, if_neg c2]
      obtain ⟨k, hk, ek⟩ := (mFo_k (F 4) (F 5) (F 14 i) q nl nl 0 (-1) (Nat.zero_add _) (Or.inl rfl)).resolve_left c2
      rw [ek, nI_clamp (by omega), h5 k hk _ _ htb hl3, ht, a3]
      have e100 : (100 : Int32) - D 6 i = nI (100 - b) := by rw [eb, show (100 : Int32) = nI 100 from rfl, pk_sub (by omega)]
      rw [← a6, e100]
      obtain ⟨s1, k2, s2, s3⟩ := sc_int (mLv F L k (hTf (F 12 i) (mEr (F 6) (F 7) (F 8) (F 9) (F 11 i) (F 14 i) q ne 0 (-1) 0) (F 15 i)) (F 13 i)) (b := 100 - b) (by omega)
      exact ⟨s1, Or.inr ⟨k2, s2, s1.symm.trans s3⟩⟩
  · rw [if_neg c1, if_neg c1]; exact ⟨rfl, Or.inl rfl⟩
theorem mx_sn {x : Int32} (h : x = -1 ∨ ∃ k : Nat, k ≤ 1000000 ∧ x = nI k) : (if 0 < x then x else 0) = hSn x := by
  unfold hSn
  rcases h with h | ⟨k, hk, h⟩
  · rw [h]; decide
  · rw [h, if_neg (nI_ne_m1 (by omega))]
    by_cases c : 0 < k
    · rw [if_pos (show 0 < nI k from nI_lt (a := 0) c (by omega))]
    · obtain rfl : k = 0 := by omega
      decide
theorem sm_eq {D : Nat → Nat → Int32} {ng : Nat} {l0 lf lt : Nat → Int32} {nl : Nat} {en ef et ep : Nat → Int32} {ne : Nat} {V : Nat → Int32 → Int32 → Int64} {F : Nat → Nat → Int32} {L : Nat → Nat} (h : alR D ng l0 lf lt nl en ef et ep ne V F L) (ow q : Int32) : ∀ (r i : Nat) (a : Int32), i + r = ng → hSm D (fun i => hSc l0 lf lt nl en ef et ep ne V D i q) ow r i a = mSm F nl ne L ow q r i a
  | 0, _, _, _ => rfl
  | r + 1, i, a, hi => by
    obtain ⟨s1, s2⟩ := hs_sc h (show i < ng by omega) q
    rw [hSm, mSm, (h.2.2.1 i (by omega)).1.1, mx_sn s2, Int32.add_zero]
    show hSm D _ ow r (i + 1) (if F 10 i = ow then a + hSn (hSc l0 lf lt nl en ef et ep ne V D i q) else a) = _
    rw [s1]
    exact sm_eq h ow q r (i + 1) _ (by omega)
theorem pay_eq {D : Nat → Nat → Int32} {ng : Nat} {l0 lf lt : Nat → Int32} {nl : Nat} {en ef et ep : Nat → Int32} {ne : Nat} {V : Nat → Int32 → Int32 → Int64} {F : Nat → Nat → Int32} {L : Nat → Nat} (h : alR D ng l0 lf lt nl en ef et ep ne V F L) {pr : Nat → Int32} (hp : ∀ j, j < 6 → pr j = F 19 j) (how : ∀ i, i < ng → ∃ x, x < 6 ∧ D 0 i = nI x) (nw : Nat) {i : Nat} (hi : i < ng) : hPay l0 lf lt nl en ef et ep ne V pr D nw i = mPay F nl ne L (nI nw) i := by
  obtain ⟨s1, s2⟩ := hs_sc h hi (nI nw)
  obtain ⟨x, hx, ex⟩ := how i hi
  unfold hPay mPay
  rw [mx_sn s2, s1, ← (h.2.2.1 i hi).1.1, ex, nI_clamp (by omega), hp x hx]
theorem mo_eq {V : Nat → Int32 → Int32 → Int64} {F : Nat → Nat → Int32} {L : Nat → Nat} {nl : Nat} {d l : Int32} (hn : nl ≤ 20) (h : ∀ k, k < nl → V k d l = mLv F L k d l) : ∀ (r i : Nat) (t : Int32) (w : Int64), i + r = nl → (t = -1 ∨ ∃ j, j < i ∧ t = nI j ∧ w = V j d l) → hMo V d l r i t w = mMo F L d l r i t
  | 0, _, _, _, _, _ => rfl
  | r + 1, i, t, w, hi, ht => by
    have take : nI i = -1 ∨ ∃ j, j < i + 1 ∧ nI i = nI j ∧ V i d l = V j d l := Or.inr ⟨i, by omega, rfl, rfl⟩
    rw [hMo, mMo]
    rcases ht with e | ⟨j, hj, e, ew⟩
    · rw [if_pos e, if_pos e]
      exact mo_eq hn h r (i + 1) _ _ (by omega) take
    · have ne : ¬ t = -1 := by rw [e]; exact nI_ne_m1 (by omega)
      rw [if_neg ne, if_neg ne, ew, h i (by omega), h j (by omega), e, nI_clamp (by omega)]
      by_cases c : mLv F L i d l ≤ mLv F L j d l
      · rw [if_pos c, if_pos c]
        exact mo_eq hn h r (i + 1) _ _ (by omega) (Or.inr ⟨j, by omega, rfl, (h j (by omega)).symm⟩)
      · rw [if_neg c, if_neg c, ← h i (by omega)]
        exact mo_eq hn h r (i + 1) _ _ (by omega) take
theorem near_eq {I : Nat → Int32} {x t : Int32} (hx : 0 ≤ x.toInt ∧ x.toInt ≤ 1000000) (ht : 0 ≤ t.toInt ∧ t.toInt ≤ 1000000) (ha : 0 ≤ (I 46).toInt ∧ (I 46).toInt ≤ 100) : crN x t (I 46) = mIsNear I x t := by
  have e1 : (x - t).toInt = x.toInt - t.toInt := by rw [Int32.toInt_sub, fb_bmod (by omega) (by omega)]
  have e2 : 0 ≤ (if 0 ≤ (x - t) then (x - t) else 0 - (x - t)).toInt ∧ (if 0 ≤ (x - t) then (x - t) else 0 - (x - t)).toInt ≤ 1000000 := by
    split
    · next c =>
      have c : 0 ≤ (x - t).toInt := (fa_le _ _).mp c
      omega
    · next c =>
      have c : ¬ 0 ≤ (x - t).toInt := fun z => c ((fa_le _ _).mpr z)
      rw [Int32.toInt_sub, show (0 : Int32).toInt = 0 from rfl, fb_bmod (by omega) (by omega)]
      omega
  unfold crN mIsNear
  generalize (if 0 ≤ (x - t) then (x - t) else 0 - (x - t)) = A at e2 ⊢
  have p0 : 0 ≤ t.toInt * (I 46).toInt := Int.mul_nonneg ht.1 ha.1
  have p1 : t.toInt * (I 46).toInt ≤ 1000000 * 100 := Int.mul_le_mul ht.2 ha.2 ha.1 (by decide)
  have q1 : (t * I 46).toInt = t.toInt * (I 46).toInt := by rw [Int32.toInt_mul, fb_bmod (by omega) (by omega)]
  have q2 : (A * 100).toInt = A.toInt * 100 := by rw [Int32.toInt_mul, show (100 : Int32).toInt = 100 from rfl, fb_bmod (by omega) (by omega)]
  have q3 : (t.toInt64 * (I 46).toInt64).toInt = t.toInt * (I 46).toInt := by rw [Int64.toInt_mul, Int32.toInt_toInt64, Int32.toInt_toInt64, fb_bmodL (by omega) (by omega)]
  have q4 : (A.toInt64 * 100).toInt = A.toInt * 100 := by rw [Int64.toInt_mul, Int32.toInt_toInt64, show (100 : Int64).toInt = 100 from rfl, fb_bmodL (by omega) (by omega)]
  have q5 : t * I 46 < A * 100 ↔ t.toInt64 * (I 46).toInt64 < A.toInt64 * 100 := by rw [fa_lt, fa_lt64, q1, q2, q3, q4]
  by_cases c : t * I 46 < A * 100
  · rw [if_pos c, if_pos (q5.mp c)]
  · rw [if_neg c, if_neg (fun z => c (q5.mpr z))]
theorem ag_eq {td tl : Int32} {bd bl sd sl : Nat → Int32} {I : Nat → Int32} {F : Nat → Nat → Int32} {a b : Nat} (h1 : td = I 44) (h2 : tl = I 45) (h3 : bd a = F 38 a) (h4 : bl a = F 39 a) (h5 : sd b = F 38 (20 + b)) (h6 : sl b = F 39 (20 + b)) : hAg td tl bd bl sd sl a b = mE I F a b := by
  unfold hAg mE mAgr aI
  rw [h1, h2, h3, h4, h5, h6]
  generalize (if 0 ≤ F 38 a - F 38 (20 + b) then F 38 a - F 38 (20 + b) else 0 - (F 38 a - F 38 (20 + b))) = A
  generalize (if 0 ≤ F 39 a - F 39 (20 + b) then F 39 a - F 39 (20 + b) else 0 - (F 39 a - F 39 (20 + b))) = B
  by_cases c1 : I 44 < A
  · rw [if_pos c1, decide_eq_false (fun z => z c1), Bool.false_and]; decide
  · rw [if_neg c1, decide_eq_true c1, Bool.true_and]
    by_cases c2 : I 45 < B
    · rw [if_pos c2, decide_eq_false (fun z => z c2)]; decide
    · rw [if_neg c2, decide_eq_true c2]; decide
theorem hs_0 (p : Nat → Bool) (rd ck : Nat → Nat) : ∀ r i, hSum p (fun i => ck i * ck i) r i = 0 → hSum p (fun i => rd i * ck i) r i = 0
  | 0, _, _ => rfl
  | r + 1, i, h => by
    rw [hSum] at h ⊢
    have h1 : hSum p (fun i => ck i * ck i) r (i + 1) = 0 := by omega
    rw [hs_0 p rd ck r (i + 1) h1]
    split
    · next c =>
      rw [if_pos c] at h
      have h2 : ck i * ck i = 0 := by omega
      have h3 : ck i = 0 := (Nat.mul_eq_zero.mp h2).elim id id
      rw [h3, Nat.mul_zero]
    · rfl
theorem hs_cg {p p2 : Nat → Bool} (x : Nat → Nat) : ∀ r i, (∀ j, i ≤ j → j < i + r → p j = p2 j) → hSum p x r i = hSum p2 x r i
  | 0, _, _ => rfl
  | r + 1, i, h => by rw [hSum, hSum, hs_cg x r (i + 1) (fun j h1 h2 => h j (by omega) (by omega)), h i (Nat.le_refl i) (by omega)]
theorem hab_eq {D F : Nat → Nat → Int32} {rd ck : Nat → Nat} {ng : Nat} (h : ∀ i, i < ng → D 1 i = F 11 i) (stick wh : Int32) : hHab D rd ck ng stick wh = mHab F rd ck ng stick wh := by
  have e : ∀ x, hSum (hQ D stick) x ng 0 = hSum (hP F stick) x ng 0 := fun x => hs_cg x ng 0 (fun j _ hj => by unfold hQ hP; rw [h j (by omega)])
  unfold hHab mHab
  rw [e, e]
  by_cases c1 : mIn stick 0 5 = 0
  · rw [if_pos c1, if_pos c1]
  rw [if_neg c1, if_neg c1]
  by_cases c2 : mIn wh 0 1 = 0
  · rw [if_pos c2, if_pos c2]
  rw [if_neg c2, if_neg c2]
  by_cases c3 : hSum (hP F stick) (fun i => ck i * ck i) ng 0 = 0
  · rw [if_pos c3, if_pos (by rw [c3, hs_0 _ rd ck ng 0 c3]; rfl)]
  · rw [if_neg c3, if_neg (fun z => c3 (Nat.eq_zero_of_gcd_eq_zero_left z))]
