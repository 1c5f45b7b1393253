/-! ===== the first fault, found in one pass and by descent ===== -/
/-- a text as the reference keeps it and as the house does -/
def txR (t : Nat → Int32) (a n : Nat) (f : Nat → Int32) : Prop := n ≤ 120 ∧ ∀ j, j < n → t (a + j) = (t (a + j)).toInt8.toInt32 ∧ f j = yB (t (a + j))
theorem yB_int {x : Int32} (h : x = x.toInt8.toInt32) : (-128 ≤ x.toInt ∧ x.toInt ≤ 127) ∧ (yB x).toInt = if 0 ≤ x.toInt then x.toInt else x.toInt + 256 := by
  have h1 : x.toInt = x.toInt.bmod 256 := by
    have := congrArg Int32.toInt h
    rw [Int8.toInt_toInt32, Int32.toInt_toInt8] at this
    exact this
  rw [Int.bmod_def] at h1
  have h2 := sgn_nat x
  have l2 : x.toBitVec.toNat < 4294967296 := x.toBitVec.isLt
  have h3 : (yB x).toInt = ((x.toBitVec.toNat % 256 : Nat) : Int) := by
    unfold yB
    rw [pk_and _ 8 (by decide)]
    exact nI_toInt (Nat.lt_of_lt_of_le (Nat.mod_lt _ (by decide)) (by decide))
  rw [h3]
  generalize x.toBitVec.toNat = b at *
  generalize x.toInt = v at *
  simp only [show ((2 : Nat) ^ 32) = 4294967296 from rfl, show ((2 : Int) ^ 32) = 4294967296 from rfl] at h2
  split at h1 <;> split at h2 <;> constructor <;> (try split) <;> omega
section FA
variable {t f : Nat → Int32} {a n : Nat}
theorem tx_32 (h : txR t a n f) {j : Nat} (hj : j < n) : t (a + j) = 32 ↔ f j = 32 := by
  obtain ⟨h1, h2⟩ := h.2 j hj
  obtain ⟨h3, h4⟩ := yB_int h1
  rw [← h2] at h4
  rw [fa_eq, fa_eq, h4, show (32 : Int32).toInt = 32 from rfl]
  split <;> omega
theorem tx_v (h : txR t a n f) {j : Nat} (hj : j < n) : lkV t a n j = f j := by
  unfold lkV
  rw [if_pos hj, (h.2 j hj).2]; rfl
theorem tx_e (j : Nat) (hj : ¬ j < n) : lkV t a n j = -1 := by
  unfold lkV
  rw [if_neg hj]
theorem tx_b (h : txR t a n f) {j : Nat} (hj : j < n) : ¬ f j = -1 := by
  obtain ⟨h1, h2⟩ := h.2 j hj
  obtain ⟨h3, h4⟩ := yB_int h1
  rw [← h2] at h4
  rw [fa_eq, h4, show (-1 : Int32).toInt = -1 from rfl]
  split <;> omega
theorem tx_d (h : txR t a n f) {j : Nat} (hj : j < n) : mDg t a n j = 0 ↔ tDig (f j) = 0 := by
  obtain ⟨h1, h2⟩ := h.2 j hj
  obtain ⟨h3, h4⟩ := yB_int h1
  rw [← h2] at h4
  have hn := h.1
  unfold mDg tDig
  rw [if_neg (nI_ge hj (by omega))]
  simp only [fa_lt, h4, show (48 : Int32).toInt = 48 from rfl, show (57 : Int32).toInt = 57 from rfl]
  by_cases c1 : (t (a + j)).toInt < 48
  · rw [if_pos c1]
    by_cases c0 : 0 ≤ (t (a + j)).toInt
    · rw [if_pos c0, if_pos c1]
    · rw [if_neg c0, if_neg (by omega), if_pos (by omega)]
  · rw [if_neg c1, if_pos (show 0 ≤ (t (a + j)).toInt by omega), if_neg c1]
theorem tx_n (h : txR t a n f) {j : Nat} (hj : j < n) (hd : ¬ tDig (f j) = 0) : t (a + j) = f j := by
  obtain ⟨h1, h2⟩ := h.2 j hj
  obtain ⟨h3, h4⟩ := yB_int h1
  rw [← h2] at h4
  rw [fa_eq, h4]
  split
  · rfl
  · next c =>
    exfalso
    apply hd
    unfold tDig
    have q : (f j).toInt = (t (a + j)).toInt + 256 := by rw [h4, if_neg c]
    rw [if_neg (show ¬ f j < 48 by rw [fa_lt, q, show (48 : Int32).toInt = 48 from rfl]; omega), if_pos (show 57 < f j by rw [fa_lt, q, show (57 : Int32).toInt = 57 from rfl]; omega)]
theorem mDg_n : mDg t a n n = 0 := by
  unfold mDg
  rw [if_pos (Int32.le_refl _)]
/-- the one pass from place i on: w a factor is wanted, d brackets open, g digits read -/
def fT (f : Nat → Int32) (n i : Nat) (w : Int32) (d : Nat) (g : Int32) : Int32 := tFf f n (n - i) i w (nI d) g
theorem fT_u {i : Nat} (hi : i < n) (w : Int32) (d : Nat) (g : Int32) : fT f n i w d g =
    if tDig (f i) = 0 then (if f i = 32 then fT f n (i + 1) w d 0 else if tFits (f i) w (nI d) = 0 then nI i else if f i = 40 then fT f n (i + 1) w (d + 1) 0 else if f i = 41 then tFf f n (n - (i + 1)) (i + 1) w (nI d + (-1)) 0 else if w = 0 then fT f n (i + 1) 1 d 0 else fT f n (i + 1) 0 d 0)
    else if w = 0 then (if g = 0 then nI i else if g = 5 then nI i else fT f n (i + 1) 0 d (g + 1)) else fT f n (i + 1) 0 d (g + 1) := by
  unfold fT
  rw [show n - i = n - (i + 1) + 1 by omega, tFf, nI_1]
theorem fT_n (w : Int32) (d : Nat) (g : Int32) : fT f n n w d g = if w = 0 then (if nI d ≤ 0 then -1 else nI n) else nI n := by
  unfold fT
  rw [Nat.sub_self, tFf]
theorem fT_sp {i : Nat} (hi : i < n) (h : f i = 32) (w : Int32) (d : Nat) (g : Int32) : fT f n i w d g = fT f n (i + 1) w d 0 := by
  rw [fT_u hi, h, if_pos (by decide), if_pos rfl]
theorem fT_op {i : Nat} (hi : i < n) (h : f i = 42 ∨ f i = 47 ∨ f i = 43 ∨ f i = 45) (d : Nat) (g : Int32) : fT f n i 0 d g = fT f n (i + 1) 1 d 0 := by
  rw [fT_u hi]
  rcases h with h | h | h | h
  all_goals
    rw [h, if_pos (by decide), if_neg (by decide), if_neg (by unfold tFits; simp), if_neg (by decide), if_neg (by decide), if_pos rfl]
theorem fT_dl {i : Nat} (hi : i < n) (h : f i = 100 ∨ f i = 108) (d : Nat) (g : Int32) : fT f n i 1 d g = fT f n (i + 1) 0 d 0 := by
  rw [fT_u hi]
  rcases h with h | h
  all_goals
    rw [h, if_pos (by decide), if_neg (by decide), if_neg (by unfold tFits; simp), if_neg (by decide), if_neg (by decide), if_neg (by decide)]
theorem fT_open {i : Nat} (hi : i < n) (h : f i = 40) {d : Nat} (hd : d < 8) (g : Int32) : fT f n i 1 d g = fT f n (i + 1) 1 (d + 1) 0 := by
  have h8 : ¬ (8 : Int32) ≤ nI d := nI_ge (b := 8) hd (by decide)
  rw [fT_u hi, h, if_pos (by decide), if_neg (by decide), if_neg (by unfold tFits; rw [if_pos rfl, if_neg (by decide), if_neg h8]; decide), if_pos rfl]
theorem fT_open8 {i : Nat} (hi : i < n) (h : f i = 40) (g : Int32) : fT f n i 1 8 g = nI i := by
  rw [fT_u hi, h, if_pos (by decide), if_neg (by decide), if_pos (by unfold tFits; rw [if_pos rfl, if_neg (by decide), if_pos (by decide)])]
theorem fT_close {i : Nat} (hi : i < n) (h : f i = 41) {d : Nat} (hd : d < 8) (g : Int32) : fT f n i 0 (d + 1) g = fT f n (i + 1) 0 d 0 := by
  have h8 : ¬ nI (d + 1) ≤ (0 : Int32) := nI_ge (a := 0) (b := d + 1) (by omega) (by omega)
  rw [fT_u hi, h, if_pos (by decide), if_neg (by decide), if_neg (by unfold tFits; rw [if_neg (by decide), if_pos rfl, if_pos rfl, if_neg h8]; decide), if_neg (by decide), if_pos rfl, pk_m1]
  rfl
theorem fT_close0 {i : Nat} (hi : i < n) (h : f i = 41) (g : Int32) : fT f n i 0 0 g = nI i := by
  rw [fT_u hi, h, if_pos (by decide), if_neg (by decide), if_pos (by unfold tFits; rw [if_neg (by decide), if_pos rfl, if_pos rfl, if_pos (by decide)])]
theorem fT_bad0 {i : Nat} (hi : i < n) (h1 : ¬ f i = 32) (h2 : ¬ f i = 41) (h3 : ¬ (f i = 42 ∨ f i = 47 ∨ f i = 43 ∨ f i = 45)) (d : Nat) : fT f n i 0 d 0 = nI i := by
  rw [fT_u hi]
  by_cases hd : tDig (f i) = 0
  · rw [if_pos hd, if_neg h1, if_pos]
    unfold tFits
    have a1 : ¬ f i = 42 := fun z => h3 (Or.inl z)
    have a2 : ¬ f i = 47 := fun z => h3 (Or.inr (Or.inl z))
    have a3 : ¬ f i = 43 := fun z => h3 (Or.inr (Or.inr (Or.inl z)))
    have a4 : ¬ f i = 45 := fun z => h3 (Or.inr (Or.inr (Or.inr z)))
    rw [if_neg h2, if_neg a1, if_neg a3, if_neg a4, if_neg a2]
    split
    · rfl
    split
    · rfl
    split <;> rfl
  · rw [if_neg hd, if_pos rfl, if_pos rfl]
theorem fT_bad1 {i : Nat} (hi : i < n) (hd : tDig (f i) = 0) (h1 : ¬ f i = 32) (h2 : ¬ f i = 40) (h3 : ¬ f i = 100) (h4 : ¬ f i = 108) (d : Nat) (g : Int32) : fT f n i 1 d g = nI i := by
  rw [fT_u hi, if_pos hd, if_neg h1, if_pos]
  unfold tFits
  rw [if_neg h2, if_neg h3, if_neg h4]
  simp
/-- spaces don't count -/
theorem fT_lkF (h : txR t a n f) (w : Int32) (d : Nat) : ∀ (r k : Nat), k + r = n → fT f n k w d 0 = fT f n (lkF t a r k) w d 0
  | 0, _, _ => rfl
  | r + 1, k, hk => by
    rw [lkF]
    by_cases c : t (a + k) = 32
    · rw [if_pos c, fT_sp (by omega) ((tx_32 h (by omega)).mp c), fT_lkF h w d r (k + 1) (by omega)]
    · rw [if_neg c]
theorem fT_lk (h : txR t a n f) (w : Int32) (d : Nat) {k : Nat} (hk : k ≤ n) : fT f n k w d 0 = fT f n (lk t a n k) w d 0 := fT_lkF h w d (n - k) k (by omega)
/-- digits: the pass and the descent -/
def fZ (f : Nat → Int32) (n d : Nat) (Z : PZ) : Int32 := match Z with | .inl q => nI q | .inr z => fT f n z.2 0 d 0
theorem fT_nd {k : Nat} (hk : k ≤ n) (hd : k < n → tDig (f k) = 0) (d : Nat) (g : Int32) : fT f n k 0 d g = fT f n k 0 d 0 := by
  rcases Nat.lt_or_ge k n with z | z
  · rw [fT_u z, fT_u z, if_pos (hd z), if_pos (hd z)]
  · obtain rfl : k = n := by omega
    rw [fT_n, fT_n]
theorem fT_dig (h : txR t a n f) (d : Nat) : ∀ (r k : Nat) (v : Int64) (g : Nat), g + r = 5 → 1 ≤ g → k ≤ n → fT f n k 0 d (nI g) = fZ f n d (pDl t a n r v k)
  | 0, k, v, g, hg, _, hk => by
    obtain rfl : g = 5 := by omega
    rw [pDl]
    by_cases c : mDg t a n k = 0
    · rw [if_pos c]
      exact fT_nd hk (fun z => (tx_d h z).mp c) d _
    · rw [if_neg c]
      have hn := h.1
      have hkn := mDg_lt c hk (by omega)
      rw [fT_u hkn, if_neg (fun z => c ((tx_d h hkn).mpr z)), if_pos rfl, if_neg (by decide), if_pos (by decide)]
      rfl
  | r + 1, k, v, g, hg, hg1, hk => by
    rw [pDl]
    by_cases c : mDg t a n k = 0
    · rw [if_pos c]
      exact fT_nd hk (fun z => (tx_d h z).mp c) d _
    · rw [if_neg c]
      have hn := h.1
      have hkn := mDg_lt c hk (by omega)
      rw [fT_u hkn, if_neg (fun z => c ((tx_d h hkn).mpr z)), if_pos rfl, if_neg (show ¬ nI g = 0 from fun z => absurd (nI_inj2 (a := g) (b := 0) z (by omega) (by decide)) (by omega)), if_neg (show ¬ nI g = 5 from fun z => absurd (nI_inj2 (a := g) (b := 5) z (by omega) (by decide)) (by omega)), nI_1]
      exact fT_dig h d r (k + 1) _ (g + 1) (by omega) (by omega) hkn
/-- where what was read ends: no more of these signs -/
def fE (t f : Nat → Int32) (a n : Nat) (bad : Int32 → Prop) (Z : PZ) : Prop := ∀ z, Z = .inr z → z.2 ≤ n ∧ lk t a n z.2 = z.2 ∧ (z.2 < n → ¬ bad (f z.2))
def bd1 (x : Int32) : Prop := x = 42 ∨ x = 47
def bd2 (x : Int32) : Prop := x = 42 ∨ x = 47 ∨ x = 43 ∨ x = 45
theorem fT_fa (h : txR t a n f) {gd gl : Int64} {S : Nat → PZ} {d : Nat} (hd : d ≤ 8) (h8 : d = 8 → ∀ k, S k = .inl (k - 1)) (hS : d < 8 → ∀ k, k ≤ n → fT f n k 1 (d + 1) 0 = fZ f n (d + 1) (S k) ∧ fE t f a n bd2 (S k)) {k : Nat} (hk : k ≤ n) : fT f n k 1 d 0 = fZ f n d (pFa t a n gd gl S k) := by
  have hn := h.1
  rw [fT_lk h 1 d hk]
  have hg := lk_ge t a n k hk
  unfold pFa
  have hst : lk t a n k < n → ¬ f (lk t a n k) = 32 := fun z => by
    rcases lkF_st t a (n - k) k with w | w
    · unfold lk at z; omega
    · exact fun q => w ((tx_32 h z).mpr q)
  generalize lk t a n k = j at hg hst ⊢
  unfold pFj
  rcases Nat.lt_or_ge j n with hj | hj
  · rw [tx_v h hj]
    by_cases c1 : f j = 100
    · rw [if_pos c1, fT_dl hj (Or.inl c1)]; rfl
    rw [if_neg c1]
    by_cases c2 : f j = 108
    · rw [if_pos c2, fT_dl hj (Or.inr c2)]; rfl
    rw [if_neg c2]
    by_cases c3 : f j = 40
    · rw [if_pos c3]
      rcases Nat.lt_or_ge d 8 with w | w
      · obtain ⟨s1, s2⟩ := hS w (j + 1) hj
        rw [fT_open hj c3 w, s1]
        revert s2
        rcases S (j + 1) with q | ⟨v, k2⟩
        · exact fun _ => rfl
        · intro s2
          obtain ⟨e1, e2, e3⟩ := s2 (v, k2) rfl
          have e1 : k2 ≤ n := e1
          have e2 : lk t a n k2 = k2 := e2
          have e3 : k2 < n → ¬ bd2 (f k2) := e3
          show fT f n k2 0 (d + 1) 0 = fZ f n d (if lkV t a n (lk t a n k2) = 41 then .inr (v, lk t a n k2 + 1) else .inl (lk t a n k2))
          have hst2 : k2 < n → ¬ f k2 = 32 := fun z => by
            rcases lkF_st t a (n - k2) k2 with w | w
            · unfold lk at e2; omega
            · intro q
              have : lkF t a (n - k2) k2 = k2 := e2
              rw [this] at w
              exact w ((tx_32 h z).mpr q)
          rw [e2]
          rcases Nat.lt_or_ge k2 n with z | z
          · rw [tx_v h z]
            by_cases c : f k2 = 41
            · rw [if_pos c, fT_close z c w]; rfl
            · rw [if_neg c, fT_bad0 z (hst2 z) c (e3 z)]; rfl
          · obtain rfl : k2 = n := by omega
            rw [tx_e k2 (Nat.lt_irrefl _), if_neg (by decide), fT_n, if_pos rfl, if_neg (show ¬ nI (d + 1) ≤ 0 from nI_ge (a := 0) (b := d + 1) (by omega) (by omega))]; rfl
      · obtain rfl : d = 8 := by omega
        rw [h8 rfl, fT_open8 hj c3]; rfl
    rw [if_neg c3]
    by_cases c4 : mDg t a n j = 0
    · rw [if_pos c4, fT_bad1 hj ((tx_d h hj).mp c4) (hst hj) c3 c1 c2]; rfl
    · rw [if_neg c4, fT_u hj, if_neg (fun z => c4 ((tx_d h hj).mpr z)), if_neg (by decide)]
      have := fT_dig h d 4 (j + 1) (10 * 0 + (t (a + j)).toInt64 - 48) 1 rfl (Nat.le_refl _) hj
      rw [show (5 : Nat) = 4 + 1 from rfl, pDl, if_neg c4]
      exact this
  · obtain rfl : j = n := by omega
    rw [tx_e j (Nat.lt_irrefl _), if_neg (by decide), if_neg (by decide), if_neg (by decide), if_pos mDg_n, fT_n, if_neg (by decide)]; rfl
theorem lk_st2 (h : txR t a n f) {k : Nat} (hk : k ≤ n) : lk t a n k < n → ¬ f (lk t a n k) = 32 := fun z => by
  rcases lkF_st t a (n - k) k with w | w
  · unfold lk at z; omega
  · exact fun q => w ((tx_32 h z).mpr q)
theorem fT_pl (h : txR t a n f) {F : Nat → PZ} {d : Nat} (hF : ∀ k, k ≤ n → fT f n k 1 d 0 = fZ f n d (F k)) (hB : ∀ k, k ≤ n → pB n k (F k)) : ∀ (r : Nat) (v : Int64) (k : Nat), n - k < r → k ≤ n → fT f n k 0 d 0 = fZ f n d (pPl t a n F r v k) ∧ fE t f a n bd1 (pPl t a n F r v k)
  | 0, _, _, hf, _ => absurd hf (Nat.not_lt_zero _)
  | r + 1, v, k, hf, hk => by
    rw [fT_lk h 0 d hk, pPl]
    have hg := lk_ge t a n k hk
    have hl := lk_lk t a n k hk
    generalize lk t a n k = j at hg hl ⊢
    have go : ∀ (c : j < n) (c2 : f j = 42 ∨ f j = 47 ∨ f j = 43 ∨ f j = 45) (g : Int64 → Int64), fT f n j 0 d 0 = fZ f n d (match F (j + 1) with | .inl q => .inl q | .inr z => pPl t a n F r (g z.1) z.2) ∧ fE t f a n bd1 (match F (j + 1) with | .inl q => .inl q | .inr z => pPl t a n F r (g z.1) z.2) := fun c c2 g => by
      rw [fT_op c c2, hF (j + 1) c]
      have hb := hB (j + 1) c
      revert hb
      rcases F (j + 1) with q | ⟨w, k2⟩
      · exact fun _ => ⟨rfl, fun z e => by cases e⟩
      · intro ⟨b1, b2⟩
        have b1 : j + 1 ≤ k2 := b1
        have b2 : k2 ≤ n := b2
        exact fT_pl h hF hB r (g w) k2 (by omega) b2
    rcases Nat.lt_or_ge j n with hj | hj
    · rw [tx_v h hj]
      by_cases c1 : f j = 42
      · rw [if_pos c1]
        exact go hj (Or.inl c1) (fun w => bd (v * w))
      rw [if_neg c1]
      by_cases c2 : f j = 47
      · rw [if_pos c2]
        exact go hj (Or.inr (Or.inl c2)) (fun w => bd (if w = 0 then 0 else fdv v w))
      rw [if_neg c2]
      exact ⟨rfl, fun z e => by cases e; exact ⟨hg.2, hl, fun _ q => q.elim c1 c2⟩⟩
    · obtain rfl : j = n := by omega
      rw [tx_e j (Nat.lt_irrefl _), if_neg (by decide), if_neg (by decide)]
      exact ⟨rfl, fun z e => by cases e; exact ⟨Nat.le_refl _, hl, fun q => absurd q (Nat.lt_irrefl _)⟩⟩
theorem fT_pr (h : txR t a n f) {F : Nat → PZ} {d : Nat} (hF : ∀ k, k ≤ n → fT f n k 1 d 0 = fZ f n d (F k)) (hB : ∀ k, k ≤ n → pB n k (F k)) (k : Nat) (hk : k ≤ n) : fT f n k 1 d 0 = fZ f n d (pPr t a n F k) ∧ fE t f a n bd1 (pPr t a n F k) := by
  rw [hF k hk]
  unfold pPr
  have hb := hB k hk
  revert hb
  rcases F k with q | ⟨w, k2⟩
  · exact fun _ => ⟨rfl, fun z e => by cases e⟩
  · intro ⟨b1, b2⟩
    have b2 : k2 ≤ n := b2
    exact fT_pl h hF hB (n + 1) w k2 (by omega) b2
theorem fT_sl (h : txR t a n f) {F : Nat → PZ} {d : Nat} (hF : ∀ k, k ≤ n → fT f n k 1 d 0 = fZ f n d (F k) ∧ fE t f a n bd1 (F k)) (hB : ∀ k, k ≤ n → pB n k (F k)) : ∀ (r : Nat) (v : Int64) (k : Nat), n - k < r → k ≤ n → lk t a n k = k → (k < n → ¬ bd1 (f k)) → fT f n k 0 d 0 = fZ f n d (pSl t a n F r v k) ∧ fE t f a n bd2 (pSl t a n F r v k)
  | 0, _, _, hf, _, _, _ => absurd hf (Nat.not_lt_zero _)
  | r + 1, v, k, hf, hk, hl, hbd => by
    rw [pSl, hl]
    have go : ∀ (c : k < n) (c2 : f k = 42 ∨ f k = 47 ∨ f k = 43 ∨ f k = 45) (g : Int64 → Int64), fT f n k 0 d 0 = fZ f n d (match F (k + 1) with | .inl q => .inl q | .inr z => pSl t a n F r (g z.1) z.2) ∧ fE t f a n bd2 (match F (k + 1) with | .inl q => .inl q | .inr z => pSl t a n F r (g z.1) z.2) := fun c c2 g => by
      obtain ⟨f1, f2⟩ := hF (k + 1) c
      rw [fT_op c c2, f1]
      have hb := hB (k + 1) c
      revert hb f2
      rcases F (k + 1) with q | ⟨w, k2⟩
      · exact fun _ _ => ⟨rfl, fun z e => by cases e⟩
      · intro f2 ⟨b1, b2⟩
        have b1 : k + 1 ≤ k2 := b1
        have b2 : k2 ≤ n := b2
        obtain ⟨-, g2, g3⟩ := f2 (w, k2) rfl
        exact fT_sl h hF hB r (g w) k2 (by omega) b2 g2 g3
    rcases Nat.lt_or_ge k n with hj | hj
    · rw [tx_v h hj]
      by_cases c1 : f k = 43
      · rw [if_pos c1]
        exact go hj (Or.inr (Or.inr (Or.inl c1))) (fun w => bd (v + w))
      rw [if_neg c1]
      by_cases c2 : f k = 45
      · rw [if_pos c2]
        exact go hj (Or.inr (Or.inr (Or.inr c2))) (fun w => bd (v - w))
      rw [if_neg c2]
      refine ⟨rfl, fun z e => ?_⟩
      cases e
      refine ⟨hk, hl, fun q w => ?_⟩
      have w : bd2 (f k) := w
      have q : k < n := q
      rcases w with w | w | w | w
      · exact hbd q (Or.inl w)
      · exact hbd q (Or.inr w)
      · exact c1 w
      · exact c2 w
    · obtain rfl : k = n := by omega
      rw [tx_e k (Nat.lt_irrefl _), if_neg (by decide), if_neg (by decide)]
      exact ⟨rfl, fun z e => by cases e; exact ⟨Nat.le_refl _, hl, fun q => absurd q (Nat.lt_irrefl _)⟩⟩
theorem fT_su (h : txR t a n f) {F : Nat → PZ} {d : Nat} (hF : ∀ k, k ≤ n → fT f n k 1 d 0 = fZ f n d (F k) ∧ fE t f a n bd1 (F k)) (hB : ∀ k, k ≤ n → pB n k (F k)) (k : Nat) (hk : k ≤ n) : fT f n k 1 d 0 = fZ f n d (pSu t a n F k) ∧ fE t f a n bd2 (pSu t a n F k) := by
  obtain ⟨f1, f2⟩ := hF k hk
  rw [f1]
  unfold pSu
  have hb := hB k hk
  revert hb f2
  rcases F k with q | ⟨w, k2⟩
  · exact fun _ _ => ⟨rfl, fun z e => by cases e⟩
  · intro f2 ⟨b1, b2⟩
    have b2 : k2 ≤ n := b2
    obtain ⟨-, g2, g3⟩ := f2 (w, k2) rfl
    exact fT_sl h hF hB (n + 1) w k2 (by omega) b2 g2 g3
theorem fT_pS (h : txR t a n f) (gd gl : Int64) : ∀ (m d : Nat), d + m = 8 → ∀ k, k ≤ n → fT f n k 1 d 0 = fZ f n d (pS t a n gd gl (m + 1) k) ∧ fE t f a n bd2 (pS t a n gd gl (m + 1) k)
  | 0, d, hd, k, hk => by
    have hn := h.1
    refine fT_su h (fun k hk => fT_pr h (fun k hk => ?_) (fun k hk => pFa_B (by omega) (fun k hk h1 => pS_B (by omega) 0 k hk (Or.inl h1)) k hk) k hk) (fun k hk => pPr_B (fun k hk => pFa_B (by omega) (fun k hk h1 => pS_B (by omega) 0 k hk (Or.inl h1)) k hk) k hk) k hk
    exact fT_fa h (by omega) (fun _ _ => rfl) (fun z => absurd z (by omega)) hk
  | m + 1, d, hd, k, hk => by
    have hn := h.1
    refine fT_su h (fun k hk => fT_pr h (fun k hk => ?_) (fun k hk => pFa_B (by omega) (fun k hk h1 => pS_B (by omega) (m + 1) k hk (Or.inl h1)) k hk) k hk) (fun k hk => pPr_B (fun k hk => pFa_B (by omega) (fun k hk h1 => pS_B (by omega) (m + 1) k hk (Or.inl h1)) k hk) k hk) k hk
    exact fT_fa h (by omega) (fun z => absurd z (by omega)) (fun _ k hk => fT_pS h gd gl m (d + 1) (by omega) k hk) hk
/-- the two find the same first fault -/
theorem fault_eq (h : txR t a n f) (gd gl : Int64) : tFf f n n 0 1 0 0 = match pGo t a n gd gl with | .inl q => nI q | .inr _ => -1 := by
  obtain ⟨h1, h2⟩ := fT_pS h gd gl 8 0 rfl 0 (Nat.zero_le _)
  have e0 : tFf f n n 0 1 0 0 = fT f n 0 1 0 0 := rfl
  rw [e0, h1]
  unfold pGo
  revert h2
  rcases pS t a n gd gl (8 + 1) 0 with q | ⟨v, k2⟩
  · exact fun _ => rfl
  · intro h2
    obtain ⟨e1, e2, e3⟩ := h2 (v, k2) rfl
    have e1 : k2 ≤ n := e1
    have e2 : lk t a n k2 = k2 := e2
    have e3 : k2 < n → ¬ bd2 (f k2) := e3
    show fT f n k2 0 0 0 = match (if lkV t a n (lk t a n k2) = -1 then Sum.inr v else Sum.inl (lk t a n k2) : Nat ⊕ Int64) with | .inl q => nI q | .inr _ => -1
    have hst := lk_st2 h e1
    rw [e2] at hst ⊢
    rcases Nat.lt_or_ge k2 n with z | z
    · rw [tx_v h z, if_neg (tx_b h z)]
      show fT f n k2 0 0 0 = nI k2
      by_cases c : f k2 = 41
      · exact fT_close0 z c 0
      · exact fT_bad0 z (hst z) c (e3 z) 0
    · obtain rfl : k2 = n := by omega
      rw [tx_e k2 (Nat.lt_irrefl _), if_pos rfl, fT_n, if_pos rfl, if_pos (by decide)]
end FA
