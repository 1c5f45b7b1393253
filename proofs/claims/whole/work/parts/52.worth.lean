/-! ===== a law's worth, worked out in one pass over tokens and by descent ===== -/
def tlN (f : Nat → Int32) : Nat → Nat → Option Int32 → List Int32
  | 0, _, c => c.toList
  | r + 1, i, c => if tDig (f i) = 0 then c.toList ++ ((if f i = 32 then [] else [-(f i)]) ++ tlN f r (i + 1) none) else tlN f r (i + 1) (some (match c with | none => f i - 48 | some v => v * 10 + f i - 48))
def tkL (z : (Nat → Int32) × Nat) (kb : Nat) (g : Nat → Int32) (L : List Int32) : Prop := z.2 = kb + L.length ∧ (∀ j, j < kb → z.1 j = g j) ∧ ∀ m, m < L.length → z.1 (kb + m) = L.getD m 0
theorem tkL_cons {z : (Nat → Int32) × Nat} {kb : Nat} {g g2 : Nat → Int32} {L : List Int32} {x : Int32} (h : tkL z (kb + 1) g2 L) (h1 : ∀ j, j < kb → g2 j = g j) (h2 : g2 kb = x) : tkL z kb g (x :: L) := by
  obtain ⟨a1, a2, a3⟩ := h
  refine ⟨by rw [a1, List.length_cons]; omega, fun j hj => (a2 j (by omega)).trans (h1 j hj), fun m hm => ?_⟩
  cases m with
  | zero => rw [Nat.add_zero, a2 kb (Nat.lt_succ_self kb), h2]; rfl
  | succ m =>
    have hm : m < L.length := by rw [List.length_cons] at hm; omega
    rw [show kb + (m + 1) = kb + 1 + m by omega, a3 m hm]; rfl
theorem tk_tl (f : Nat → Int32) : ∀ (r i k : Nat) (g : Nat → Int32), tkL (tkF f r i k 0 g) k g (tlN f r i none) ∧ (1 ≤ k → tkL (tkF f r i k 1 g) (k - 1) g (tlN f r i (some (g (k - 1)))))
  | 0, i, k, g => ⟨⟨rfl, fun _ _ => rfl, fun m hm => absurd hm (Nat.not_lt_zero _)⟩, fun hk => ⟨by show k = k - 1 + 1; omega, fun _ _ => rfl, fun m hm => by
      have hm : m < 1 := hm
      obtain rfl : m = 0 := by omega
      rfl⟩⟩
  | r + 1, i, k, g => by
    have up : ∀ (x : Int32) (j : Nat), j < k → upd g k x j = g j := fun x j hj => pk_un (by omega)
    constructor
    · rw [tkF, tlN]
      by_cases c : tDig (f i) = 0
      · rw [if_pos c, if_pos c]
        by_cases c2 : f i = 32
        · rw [if_pos c2, if_pos c2]
          exact (tk_tl f r (i + 1) k g).1
        · rw [if_neg c2, if_neg c2]
          exact tkL_cons (tk_tl f r (i + 1) (k + 1) (upd g k (-(f i)))).1 (up _) pk_us
      · rw [if_neg c, if_neg c, if_pos rfl]
        have h := (tk_tl f r (i + 1) (k + 1) (upd g k (f i - 48))).2 (by omega)
        rw [Nat.add_sub_cancel, pk_us] at h
        exact ⟨h.1, fun j hj => (h.2.1 j hj).trans (up _ j hj), h.2.2⟩
    · intro hk
      rw [tkF, tlN]
      by_cases c : tDig (f i) = 0
      · rw [if_pos c, if_pos c]
        by_cases c2 : f i = 32
        · rw [if_pos c2, if_pos c2]
          have h := (tk_tl f r (i + 1) k g).1
          obtain ⟨kb, rfl⟩ : ∃ kb, k = kb + 1 := ⟨k - 1, by omega⟩
          exact tkL_cons h (fun _ _ => rfl) rfl
        · rw [if_neg c2, if_neg c2]
          have h := tkL_cons (tk_tl f r (i + 1) (k + 1) (upd g k (-(f i)))).1 (up _) pk_us
          obtain ⟨kb, rfl⟩ : ∃ kb, k = kb + 1 := ⟨k - 1, by omega⟩
          exact tkL_cons h (fun _ _ => rfl) rfl
      · rw [if_neg c, if_neg c, if_neg (by decide), if_pos (by omega)]
        have h := (tk_tl f r (i + 1) k (upd g (k - 1) (g (k - 1) * 10 + f i - 48))).2 hk
        rw [pk_us] at h
        exact ⟨h.1, fun j hj => (h.2.1 j hj).trans (pk_un (by omega)), h.2.2⟩
theorem rk_fold (tk : Nat → Int32) (dd ll : Int32) : ∀ (L : List Int32) (i : Nat) (z : RS), (∀ m, m < L.length → tk (i + m) = L.getD m 0) → rkF tk dd ll L.length i z = L.foldl (fun z t => rSt dd ll t z) z
  | [], i, z, _ => rfl
  | x :: L, i, z, h => by
    have h0 := h 0 (Nat.zero_lt_succ _)
    rw [Nat.add_zero] at h0
    have h0 : tk i = x := h0
    show rkF tk dd ll L.length (i + 1) (rSt dd ll (tk i) z) = L.foldl (fun z t => rSt dd ll t z) (rSt dd ll x z)
    rw [h0]
    exact rk_fold tk dd ll L (i + 1) _ (fun m hm => by rw [show i + 1 + m = i + (m + 1) by omega, h (m + 1) (Nat.succ_lt_succ hm)]; rfl)
section WA
variable {t f : Nat → Int32} {a n : Nat} {dd ll : Int32}
/-- the pass from place i on, c the number read so far -/
def wX (f : Nat → Int32) (n : Nat) (dd ll : Int32) (i : Nat) (c : Option Int32) (z : RS) : RS := (tlN f (n - i) i c).foldl (fun z t => rSt dd ll t z) z
theorem wX_n (z : RS) : wX f n dd ll n none z = z := by
  unfold wX
  rw [Nat.sub_self]; rfl
theorem wX_sp {i : Nat} (hi : i < n) (h : f i = 32) (z : RS) : wX f n dd ll i none z = wX f n dd ll (i + 1) none z := by
  unfold wX
  rw [show n - i = n - (i + 1) + 1 by omega, tlN, h, if_pos (by decide), if_pos rfl]; rfl
theorem wX_ch {i : Nat} (hi : i < n) (hd : tDig (f i) = 0) (h : ¬ f i = 32) (z : RS) : wX f n dd ll i none z = wX f n dd ll (i + 1) none (rSt dd ll (-(f i)) z) := by
  unfold wX
  rw [show n - i = n - (i + 1) + 1 by omega, tlN, if_pos hd, if_neg h]; rfl
theorem wX_d0 {i : Nat} (hi : i < n) (hd : ¬ tDig (f i) = 0) (z : RS) : wX f n dd ll i none z = wX f n dd ll (i + 1) (some (f i - 48)) z := by
  unfold wX
  rw [show n - i = n - (i + 1) + 1 by omega, tlN, if_neg hd]
theorem wX_d1 {i : Nat} (hi : i < n) (hd : ¬ tDig (f i) = 0) (v : Int32) (z : RS) : wX f n dd ll i (some v) z = wX f n dd ll (i + 1) (some (v * 10 + f i - 48)) z := by
  unfold wX
  rw [show n - i = n - (i + 1) + 1 by omega, tlN, if_neg hd]
theorem wX_fl {i : Nat} (hi : i ≤ n) (hd : i < n → tDig (f i) = 0) (v : Int32) (z : RS) : wX f n dd ll i (some v) z = wX f n dd ll i none (rSt dd ll v z) := by
  unfold wX
  rcases Nat.lt_or_ge i n with w | w
  · rw [show n - i = n - (i + 1) + 1 by omega, tlN, tlN, if_pos (hd w), if_pos (hd w)]; rfl
  · rw [show n - i = 0 by omega]; rfl
theorem wX_lkF (h : txR t a n f) (z : RS) : ∀ (r k : Nat), k + r = n → wX f n dd ll k none z = wX f n dd ll (lkF t a r k) none z
  | 0, _, _ => rfl
  | r + 1, k, hk => by
    rw [lkF]
    by_cases c : t (a + k) = 32
    · rw [if_pos c, wX_sp (by omega) ((tx_32 h (by omega)).mp c), wX_lkF h z r (k + 1) (by omega)]
    · rw [if_neg c]
theorem wX_lk (h : txR t a n f) (z : RS) {k : Nat} (hk : k ≤ n) : wX f n dd ll k none z = wX f n dd ll (lk t a n k) none z := wX_lkF h z (n - k) k (by omega)
theorem st_d (z : RS) : rSt dd ll (-100) z = rTake dd.toInt64 z := by
  unfold rSt
  rw [if_neg (by decide), if_neg (by decide), if_neg (by decide), if_neg (by decide), if_neg (by decide), if_neg (by decide), if_pos (by decide)]
theorem st_l (z : RS) : rSt dd ll (-108) z = rTake ll.toInt64 z := by
  unfold rSt
  rw [if_neg (by decide), if_neg (by decide), if_neg (by decide), if_neg (by decide), if_neg (by decide), if_neg (by decide), if_neg (by decide), if_pos (by decide)]
theorem st_o {z : RS} (h : z.1 < 8) : rSt dd ll (-40) z = rBeg (z.1 + 1) z := by
  unfold rSt
  rw [if_pos (by decide), if_pos h]
theorem st_c {z : RS} (h : 0 < z.1) : rSt dd ll (-41) z = rTake (rSum z) (z.1 - 1, z.2) := by
  unfold rSt
  rw [if_neg (by decide), if_pos (by decide), if_pos h]
theorem st_t (z : RS) : rSt dd ll (-42) z = rMul 42 z := by
  unfold rSt
  rw [if_neg (by decide), if_neg (by decide), if_pos (by decide)]; rfl
theorem st_p (z : RS) : rSt dd ll (-43) z = rAdd 43 z := by
  unfold rSt
  rw [if_neg (by decide), if_neg (by decide), if_neg (by decide), if_pos (by decide)]; rfl
theorem st_m (z : RS) : rSt dd ll (-45) z = rAdd 45 z := by
  unfold rSt
  rw [if_neg (by decide), if_neg (by decide), if_neg (by decide), if_neg (by decide), if_pos (by decide)]; rfl
theorem st_q (z : RS) : rSt dd ll (-47) z = rMul 47 z := by
  unfold rSt
  rw [if_neg (by decide), if_neg (by decide), if_neg (by decide), if_neg (by decide), if_neg (by decide), if_pos (by decide)]; rfl
theorem st_num {v : Int32} (h0 : 0 ≤ v.toInt) (h1 : v.toInt ≤ 99999) (z : RS) : rSt dd ll v z = rTake v.toInt64 z := by
  have e : (-v).toInt = -v.toInt := by rw [Int32.toInt_neg, fb_bmod (by omega) (by omega)]
  have ne : ∀ k : Int32, 0 < k.toInt → ¬ -v = k := fun k hk z => by
    have := congrArg Int32.toInt z
    omega
  unfold rSt
  rw [if_neg (ne 40 (by decide)), if_neg (ne 41 (by decide)), if_neg (ne 42 (by decide)), if_neg (ne 43 (by decide)), if_neg (ne 45 (by decide)), if_neg (ne 47 (by decide)), if_neg (ne 100 (by decide)), if_neg (ne 108 (by decide))]
def bdd (v : Int64) : Prop := -1000000000 ≤ v.toInt ∧ v.toInt ≤ 1000000000
theorem bd_id {v : Int64} (h : bdd v) : bd v = v := by
  unfold bd
  rw [if_pos ((fa_le64 _ _).mpr (by rw [show (1000000000 : Int64).toInt = 1000000000 from rfl]; exact h.2)), if_pos ((fa_le64 _ _).mpr (by rw [show (-1000000000 : Int64).toInt = -1000000000 from rfl]; exact h.1))]
theorem bd_bdd (v : Int64) : bdd (bd v) := by
  unfold bd bdd
  by_cases h1 : v ≤ 1000000000
  · rw [if_pos h1]
    by_cases h2 : -1000000000 ≤ v
    · rw [if_pos h2]
      have h1 := (fa_le64 _ _).mp h1
      have h2 := (fa_le64 _ _).mp h2
      exact ⟨h2, h1⟩
    · rw [if_neg h2]; exact ⟨by decide, by decide⟩
  · rw [if_neg h1]; exact ⟨by decide, by decide⟩
def bnd : Nat → Int
  | 0 => 99999 | 1 => 9999 | 2 => 999 | 3 => 99 | _ => 9
theorem dig_int {c : Int32} (h : ¬ tDig c = 0) : 48 ≤ c.toInt ∧ c.toInt ≤ 57 := by
  unfold tDig at h
  by_cases c1 : c < 48
  · rw [if_pos c1] at h; exact absurd rfl h
  · rw [if_neg c1] at h
    by_cases c2 : 57 < c
    · rw [if_pos c2] at h; exact absurd rfl h
    · rw [fa_lt, show (48 : Int32).toInt = 48 from rfl] at c1
      rw [fa_lt, show (57 : Int32).toInt = 57 from rfl] at c2
      omega
theorem wX_dig (h : txR t a n f) : ∀ (r k : Nat) (c : Int32) (z : RS) (v2 : Int64) (k2 : Nat), r ≤ 4 → k ≤ n → 0 ≤ c.toInt → c.toInt ≤ bnd r → pDl t a n r c.toInt64 k = .inr (v2, k2) → wX f n dd ll k (some c) z = wX f n dd ll k2 none (rTake v2 z) ∧ bdd v2
  | 0, k, c, z, v2, k2, _, hk, h0, h1, e => by
    have h1 : c.toInt ≤ 99999 := h1
    rw [pDl] at e
    by_cases cc : mDg t a n k = 0
    · rw [if_pos cc] at e
      cases e
      rw [wX_fl hk (fun w => (tx_d h w).mp cc), st_num h0 h1]
      exact ⟨rfl, by show -1000000000 ≤ c.toInt64.toInt ∧ c.toInt64.toInt ≤ 1000000000; rw [Int32.toInt_toInt64]; omega⟩
    · rw [if_neg cc] at e; cases e
  | r + 1, k, c, z, v2, k2, hr, hk, h0, h1, e => by
    have hb : 10 * c.toInt + 9 ≤ bnd r := by
      rcases (show r = 0 ∨ r = 1 ∨ r = 2 ∨ r = 3 by omega) with rfl | rfl | rfl | rfl
      · have h1 : c.toInt ≤ 9999 := h1
        show _ ≤ (99999 : Int); omega
      · have h1 : c.toInt ≤ 999 := h1
        show _ ≤ (9999 : Int); omega
      · have h1 : c.toInt ≤ 99 := h1
        show _ ≤ (999 : Int); omega
      · have h1 : c.toInt ≤ 9 := h1
        show _ ≤ (99 : Int); omega
    have hb2 : bnd r ≤ 99999 := by
      rcases (show r = 0 ∨ r = 1 ∨ r = 2 ∨ r = 3 by omega) with rfl | rfl | rfl | rfl <;> decide
    rw [pDl] at e
    by_cases cc : mDg t a n k = 0
    · rw [if_pos cc] at e
      cases e
      rw [wX_fl hk (fun w => (tx_d h w).mp cc), st_num h0 (by omega)]
      exact ⟨rfl, by show -1000000000 ≤ c.toInt64.toInt ∧ c.toInt64.toInt ≤ 1000000000; rw [Int32.toInt_toInt64]; omega⟩
    · rw [if_neg cc] at e
      have hn := h.1
      have hkn := mDg_lt cc hk (by omega)
      have hd : ¬ tDig (f k) = 0 := fun w => cc ((tx_d h hkn).mpr w)
      have hdi := dig_int hd
      have ei : (c * 10 + f k - 48).toInt = c.toInt * 10 + (f k).toInt - 48 := by
        have e1 : (c * 10).toInt = c.toInt * 10 := by rw [Int32.toInt_mul, show (10 : Int32).toInt = 10 from rfl, fb_bmod (by omega) (by omega)]
        have e2 : (c * 10 + f k).toInt = c.toInt * 10 + (f k).toInt := by rw [Int32.toInt_add, e1, fb_bmod (by omega) (by omega)]
        rw [Int32.toInt_sub, e2, show (48 : Int32).toInt = 48 from rfl, fb_bmod (by omega) (by omega)]
      have el : 10 * c.toInt64 + (t (a + k)).toInt64 - 48 = (c * 10 + f k - 48).toInt64 := by
        rw [tx_n h hkn hd]
        refine (fa_eq64 _ _).mpr ?_
        have e1 : (10 * c.toInt64).toInt = 10 * c.toInt := by rw [Int64.toInt_mul, show (10 : Int64).toInt = 10 from rfl, Int32.toInt_toInt64, fb_bmodL (by omega) (by omega)]
        have e2 : (10 * c.toInt64 + (f k).toInt64).toInt = 10 * c.toInt + (f k).toInt := by rw [Int64.toInt_add, e1, Int32.toInt_toInt64, fb_bmodL (by omega) (by omega)]
        rw [Int64.toInt_sub, e2, show (48 : Int64).toInt = 48 from rfl, fb_bmodL (by omega) (by omega), Int32.toInt_toInt64, ei]
        omega
      rw [el] at e
      rw [wX_d1 hkn hd]
      exact wX_dig h r (k + 1) (c * 10 + f k - 48) z v2 k2 (by omega) hkn (by rw [ei]; omega) (by rw [ei]; omega) e
/-- entries below op are the same -/
def lo4 (op : Nat) (z y : RS) : Prop := ∀ i, i < op → y.2.1 i = z.2.1 i ∧ y.2.2.1 i = z.2.2.1 i ∧ y.2.2.2.1 i = z.2.2.2.1 i ∧ y.2.2.2.2 i = z.2.2.2.2 i
theorem lo4_rf (op : Nat) (z : RS) : lo4 op z z := fun _ _ => ⟨rfl, rfl, rfl, rfl⟩
theorem lo4_tr {op : Nat} {x y z : RS} (h1 : lo4 op x y) (h2 : lo4 op y z) : lo4 op x z := fun i hi => by
  obtain ⟨a1, a2, a3, a4⟩ := h1 i hi
  obtain ⟨b1, b2, b3, b4⟩ := h2 i hi
  exact ⟨b1.trans a1, b2.trans a2, b3.trans a3, b4.trans a4⟩
/-- behind a factor -/
def fzR (op : Nat) (v : Int64) (z y : RS) : Prop := y.1 = op ∧ lo4 op z y ∧ y.2.1 op = z.2.1 op ∧ y.2.2.2.1 op = z.2.2.2.1 op ∧ y.2.2.1 op = rTk (z.2.2.1 op) (z.2.2.2.2 op) v
theorem fzR_take {op : Nat} {z : RS} (hz : z.1 = op) (v : Int64) : fzR op v z (rTake v z) := by
  unfold rTake
  rw [hz]
  exact ⟨rfl, fun i hi => ⟨rfl, pk_uLn (by omega), rfl, rfl⟩, rfl, rfl, pk_uLs⟩
def wF (f : Nat → Int32) (n : Nat) (dd ll : Int32) (op : Nat) (F : Nat → PZ) : Prop := ∀ (k : Nat) (z : RS) (v : Int64) (k2 : Nat), k ≤ n → z.1 = op → F k = .inr (v, k2) → bdd v ∧ ∃ y, wX f n dd ll k none z = wX f n dd ll k2 none y ∧ fzR op v z y
def wP (f : Nat → Int32) (n : Nat) (dd ll : Int32) (op : Nat) (F : Nat → PZ) : Prop := ∀ (k : Nat) (z : RS) (v : Int64) (k2 : Nat), k ≤ n → z.1 = op → z.2.2.1 op = 1 → z.2.2.2.2 op = 42 → F k = .inr (v, k2) → bdd v ∧ ∃ y, wX f n dd ll k none z = wX f n dd ll k2 none y ∧ y.1 = op ∧ lo4 op z y ∧ y.2.1 op = z.2.1 op ∧ y.2.2.2.1 op = z.2.2.2.1 op ∧ y.2.2.1 op = v
def wS (f : Nat → Int32) (n : Nat) (dd ll : Int32) (op : Nat) (F : Nat → PZ) : Prop := ∀ (k : Nat) (z : RS) (v : Int64) (k2 : Nat), k ≤ n → z.1 = op → z.2.1 op = 0 → z.2.2.2.1 op = 43 → z.2.2.1 op = 1 → z.2.2.2.2 op = 42 → F k = .inr (v, k2) → bdd v ∧ ∃ y, wX f n dd ll k none z = wX f n dd ll k2 none y ∧ y.1 = op ∧ lo4 op z y ∧ rSum y = v
theorem w_fa (h : txR t a n f) (hd : bdd dd.toInt64) (hl : bdd ll.toInt64) {S : Nat → PZ} {op : Nat} (hop : op ≤ 8) (h8 : op = 8 → ∀ k, S k = .inl (k - 1)) (hS : op < 8 → wS f n dd ll (op + 1) S) (hSB : ∀ k, k ≤ n → 1 ≤ k → pB n k (S k)) : wF f n dd ll op (pFa t a n dd.toInt64 ll.toInt64 S) := by
  intro k z v k2 hk hz e
  have hn := h.1
  have hst := lk_st2 h hk
  have hg := lk_ge t a n k hk
  rw [wX_lk h z hk]
  unfold pFa at e
  generalize lk t a n k = j at hg hst e ⊢
  unfold pFj at e
  rcases Nat.lt_or_ge j n with hj | hj
  · rw [tx_v h hj] at e
    by_cases c1 : f j = 100
    · rw [if_pos c1] at e
      cases e
      refine ⟨hd, rTake dd.toInt64 z, ?_, fzR_take hz _⟩
      rw [wX_ch hj (by rw [c1]; decide) (by rw [c1]; decide), c1, st_d]
    rw [if_neg c1] at e
    by_cases c2 : f j = 108
    · rw [if_pos c2] at e
      cases e
      refine ⟨hl, rTake ll.toInt64 z, ?_, fzR_take hz _⟩
      rw [wX_ch hj (by rw [c2]; decide) (by rw [c2]; decide), c2, st_l]
    rw [if_neg c2] at e
    by_cases c3 : f j = 40
    · rw [if_pos c3] at e
      rcases Nat.lt_or_ge op 8 with w | w
      · have hb := hSB (j + 1) hj (by omega)
        cases hSj : S (j + 1) with
        | inl q => rw [hSj] at e; cases e
        | inr zz =>
          obtain ⟨v1, k1⟩ := zz
          rw [hSj] at e hb
          have b2 : k1 ≤ n := hb.2
          have e : (if lkV t a n (lk t a n k1) = 41 then (Sum.inr (v1, lk t a n k1 + 1) : PZ) else Sum.inl (lk t a n k1)) = .inr (v, k2) := e
          by_cases c4 : lkV t a n (lk t a n k1) = 41
          · rw [if_pos c4] at e
            cases e
            have hg1 := lk_ge t a n k1 b2
            have hj1 := lkV_lt c4 (by decide)
            rw [tx_v h hj1] at c4
            obtain ⟨bv, y, y1, y2, y3, y4⟩ := hS w (j + 1) (rBeg (op + 1) z) v k1 hj rfl pk_uLs pk_us pk_uLs pk_us hSj
            refine ⟨bv, rTake v (op, y.2), ?_, ?_⟩
            · rw [wX_ch hj (by rw [c3]; decide) (by rw [c3]; decide), c3, st_o (by omega), hz, y1, wX_lk h y b2, wX_ch hj1 (by rw [c4]; decide) (by rw [c4]; decide), c4, st_c (by omega), y4, y2]
              rfl
            · have q := fzR_take (op := op) (z := (op, y.2)) rfl v
              have qz : lo4 (op + 1) z y := fun i hi => by
                obtain ⟨a1, a2, a3, a4⟩ := y3 i hi
                have b1 : (rBeg (op + 1) z).2.1 i = z.2.1 i := pk_uLn (by omega)
                have b2 : (rBeg (op + 1) z).2.2.1 i = z.2.2.1 i := pk_uLn (by omega)
                have b3 : (rBeg (op + 1) z).2.2.2.1 i = z.2.2.2.1 i := pk_un (by omega)
                have b4 : (rBeg (op + 1) z).2.2.2.2 i = z.2.2.2.2 i := pk_un (by omega)
                exact ⟨a1.trans b1, a2.trans b2, a3.trans b3, a4.trans b4⟩
              obtain ⟨q1, q2, q3, q4, q5⟩ := q
              obtain ⟨o1, o2, o3, o4⟩ := qz op (Nat.lt_succ_self op)
              refine ⟨q1, lo4_tr (fun i hi => qz i (by omega)) q2, q3.trans o1, q4.trans o3, ?_⟩
              rw [q5]
              show rTk (y.2.2.1 op) (y.2.2.2.2 op) v = _
              rw [o2, o4]
          · rw [if_neg c4] at e; cases e
      · obtain rfl : op = 8 := by omega
        rw [h8 rfl] at e
        cases e
    rw [if_neg c3] at e
    by_cases c4 : mDg t a n j = 0
    · rw [if_pos c4] at e; cases e
    · rw [if_neg c4, show (5 : Nat) = 4 + 1 from rfl, pDl, if_neg c4] at e
      have hdg : ¬ tDig (f j) = 0 := fun w => c4 ((tx_d h hj).mpr w)
      have hdi := dig_int hdg
      have ei : (f j - 48).toInt = (f j).toInt - 48 := by rw [Int32.toInt_sub, show (48 : Int32).toInt = 48 from rfl, fb_bmod (by omega) (by omega)]
      have el : 10 * (0 : Int64) + (t (a + j)).toInt64 - 48 = (f j - 48).toInt64 := by
        rw [tx_n h hj hdg]
        refine (fa_eq64 _ _).mpr ?_
        have e2 : (10 * (0 : Int64) + (f j).toInt64).toInt = (f j).toInt := by rw [show 10 * (0 : Int64) = 0 from rfl, Int64.zero_add, Int32.toInt_toInt64]
        rw [Int64.toInt_sub, e2, show (48 : Int64).toInt = 48 from rfl, fb_bmodL (by omega) (by omega), Int32.toInt_toInt64, ei]
      rw [el] at e
      obtain ⟨r1, r2⟩ := wX_dig (dd := dd) (ll := ll) h 4 (j + 1) (f j - 48) z v k2 (Nat.le_refl _) hj (by rw [ei]; omega) (by rw [ei]; show _ ≤ (9 : Int); omega) e
      exact ⟨r2, rTake v z, by rw [wX_d0 hj hdg, r1], fzR_take hz v⟩
  · obtain rfl : j = n := by omega
    rw [tx_e j (Nat.lt_irrefl _), if_neg (by decide), if_neg (by decide), if_neg (by decide), if_pos mDg_n] at e
    cases e
theorem rTk_t (p v : Int64) : rTk p 42 v = bd (p * v) := if_pos rfl
theorem rTk_q (p v : Int64) : rTk p 47 v = bd (if v = 0 then 0 else fdv p v) := by
  unfold rTk
  rw [if_neg (by decide)]
  by_cases h : v = 0
  · rw [if_pos h, if_pos h]; decide
  · rw [if_neg h, if_neg h]
theorem w_pl (h : txR t a n f) {F : Nat → PZ} {op : Nat} (hF : wF f n dd ll op F) (hB : ∀ k, k ≤ n → pB n k (F k)) : ∀ (r : Nat) (v : Int64) (k : Nat) (z : RS) (v2 : Int64) (k2 : Nat), n - k < r → k ≤ n → z.1 = op → z.2.2.1 op = v → bdd v → pPl t a n F r v k = .inr (v2, k2) → bdd v2 ∧ ∃ y, wX f n dd ll k none z = wX f n dd ll k2 none y ∧ y.1 = op ∧ lo4 op z y ∧ y.2.1 op = z.2.1 op ∧ y.2.2.2.1 op = z.2.2.2.1 op ∧ y.2.2.1 op = v2
  | 0, _, _, _, _, _, hf, _, _, _, _, _ => absurd hf (Nat.not_lt_zero _)
  | r + 1, v, k, z, v2, k2, hf, hk, hz, hp, hv, e => by
    rw [wX_lk h z hk]
    rw [pPl] at e
    have hg := lk_ge t a n k hk
    generalize lk t a n k = j at hg e ⊢
    have go : ∀ (c : j < n) (sg : Int32) (hs : f j = sg) (hd : tDig sg = 0) (h32 : ¬ sg = 32) (hst : ∀ z : RS, rSt dd ll (-sg) z = rMul sg z) (g : Int64 → Int64) (hgg : ∀ w, rTk v sg w = bd (g w)),
        ((match F (j + 1) with | .inl q => .inl q | .inr z => pPl t a n F r (bd (g z.1)) z.2) : PZ) = .inr (v2, k2) → bdd v2 ∧ ∃ y, wX f n dd ll j none z = wX f n dd ll k2 none y ∧ y.1 = op ∧ lo4 op z y ∧ y.2.1 op = z.2.1 op ∧ y.2.2.2.1 op = z.2.2.2.1 op ∧ y.2.2.1 op = v2 := fun c sg hs hd h32 hst g hgg e => by
      have hb := hB (j + 1) c
      cases hFj : F (j + 1) with
      | inl q => rw [hFj] at e; cases e
      | inr zz =>
        obtain ⟨w, k1⟩ := zz
        rw [hFj] at e hb
        have b1 : j + 1 ≤ k1 := hb.1
        have b2 : k1 ≤ n := hb.2
        obtain ⟨bw, y, y1, y2, y3, y4, y5, y6⟩ := hF (j + 1) (rMul sg z) w k1 c hz hFj
        have m5 : (rMul sg z).2.2.2.2 op = sg := by unfold rMul; rw [hz]; exact pk_us
        have m6 : y.2.2.1 op = bd (g w) := by
          rw [y6, m5]
          show rTk (z.2.2.1 op) sg w = _
          rw [hp, hgg]
        obtain ⟨bv, x, x1, x2, x3, x4, x5, x6⟩ := w_pl h hF hB r (bd (g w)) k1 y v2 k2 (by omega) b2 y2 m6 (bd_bdd _) e
        have m0 : lo4 op z (rMul sg z) := fun i hi => ⟨rfl, rfl, rfl, by show upd z.2.2.2.2 z.1 sg i = z.2.2.2.2 i; exact pk_un (by omega)⟩
        refine ⟨bv, x, ?_, x2, lo4_tr (lo4_tr m0 y3) x3, x4.trans y4, x5.trans y5, x6⟩
        rw [wX_ch c (by rw [hs]; exact hd) (by rw [hs]; exact h32), hs, hst, y1, x1]
    rcases Nat.lt_or_ge j n with hj | hj
    · rw [tx_v h hj] at e
      by_cases c1 : f j = 42
      · rw [if_pos c1] at e
        exact go hj 42 c1 (by decide) (by decide) st_t (fun w => v * w) (fun w => rTk_t v w) e
      rw [if_neg c1] at e
      by_cases c2 : f j = 47
      · rw [if_pos c2] at e
        exact go hj 47 c2 (by decide) (by decide) st_q (fun w => if w = 0 then 0 else fdv v w) (fun w => rTk_q v w) e
      rw [if_neg c2] at e
      cases e
      exact ⟨hv, z, rfl, hz, lo4_rf _ _, rfl, rfl, hp⟩
    · obtain rfl : j = n := by omega
      rw [tx_e j (Nat.lt_irrefl _), if_neg (by decide), if_neg (by decide)] at e
      cases e
      exact ⟨hv, z, rfl, hz, lo4_rf _ _, rfl, rfl, hp⟩
theorem w_pr (h : txR t a n f) {F : Nat → PZ} {op : Nat} (hF : wF f n dd ll op F) (hB : ∀ k, k ≤ n → pB n k (F k)) : wP f n dd ll op (pPr t a n F) := by
  intro k z v k2 hk hz hp hg e
  unfold pPr at e
  have hb := hB k hk
  cases hFj : F k with
  | inl q => rw [hFj] at e; cases e
  | inr zz =>
    obtain ⟨w, k1⟩ := zz
    rw [hFj] at e hb
    have b2 : k1 ≤ n := hb.2
    obtain ⟨bw, y, y1, y2, y3, y4, y5, y6⟩ := hF k z w k1 hk hz hFj
    have m6 : y.2.2.1 op = w := by rw [y6, hp, hg, rTk_t, Int64.one_mul, bd_id bw]
    obtain ⟨bv, x, x1, x2, x3, x4, x5, x6⟩ := w_pl h hF hB (n + 1) w k1 y v k2 (by omega) b2 y2 m6 bw e
    exact ⟨bv, x, y1.trans x1, x2, lo4_tr y3 x3, x4.trans y4, x5.trans y5, x6⟩
theorem w_sl (h : txR t a n f) {F : Nat → PZ} {op : Nat} (hF : wP f n dd ll op F) (hB : ∀ k, k ≤ n → pB n k (F k)) : ∀ (r : Nat) (v : Int64) (k : Nat) (z : RS) (v2 : Int64) (k2 : Nat), n - k < r → k ≤ n → z.1 = op → rSum z = v → bdd v → pSl t a n F r v k = .inr (v2, k2) → bdd v2 ∧ ∃ y, wX f n dd ll k none z = wX f n dd ll k2 none y ∧ y.1 = op ∧ lo4 op z y ∧ rSum y = v2
  | 0, _, _, _, _, _, hf, _, _, _, _, _ => absurd hf (Nat.not_lt_zero _)
  | r + 1, v, k, z, v2, k2, hf, hk, hz, hp, hv, e => by
    rw [wX_lk h z hk]
    rw [pSl] at e
    have hg := lk_ge t a n k hk
    generalize lk t a n k = j at hg e ⊢
    have go : ∀ (c : j < n) (sg : Int32) (hs : f j = sg) (hd : tDig sg = 0) (h32 : ¬ sg = 32) (hst : ∀ z : RS, rSt dd ll (-sg) z = rAdd sg z) (g : Int64 → Int64) (hgg : ∀ w, rSm v w sg = bd (g w)),
        ((match F (j + 1) with | .inl q => .inl q | .inr z => pSl t a n F r (bd (g z.1)) z.2) : PZ) = .inr (v2, k2) → bdd v2 ∧ ∃ y, wX f n dd ll j none z = wX f n dd ll k2 none y ∧ y.1 = op ∧ lo4 op z y ∧ rSum y = v2 := fun c sg hs hd h32 hst g hgg e => by
      have hb := hB (j + 1) c
      cases hFj : F (j + 1) with
      | inl q => rw [hFj] at e; cases e
      | inr zz =>
        obtain ⟨w, k1⟩ := zz
        rw [hFj] at e hb
        have b1 : j + 1 ≤ k1 := hb.1
        have b2 : k1 ≤ n := hb.2
        obtain ⟨bw, y, y1, y2, y3, y4, y5, y6⟩ := hF (j + 1) (rAdd sg z) w k1 c hz (by unfold rAdd; rw [hz]; exact pk_uLs) (by unfold rAdd; rw [hz]; exact pk_us) hFj
        have m4 : y.2.1 op = v := by rw [y4]; unfold rAdd; rw [hz, ← hp]; exact pk_uLs
        have m5 : y.2.2.2.1 op = sg := by rw [y5]; unfold rAdd; rw [hz]; exact pk_us
        have m6 : rSum y = bd (g w) := by unfold rSum; rw [y2, m4, m5, y6, hgg]
        obtain ⟨bv, x, x1, x2, x3, x4⟩ := w_sl h hF hB r (bd (g w)) k1 y v2 k2 (by omega) b2 y2 m6 (bd_bdd _) e
        have m0 : lo4 op z (rAdd sg z) := fun i hi => by
          unfold rAdd
          rw [hz]
          exact ⟨pk_uLn (by omega), pk_uLn (by omega), pk_un (by omega), pk_un (by omega)⟩
        refine ⟨bv, x, ?_, x2, lo4_tr (lo4_tr m0 y3) x3, x4⟩
        rw [wX_ch c (by rw [hs]; exact hd) (by rw [hs]; exact h32), hs, hst, y1, x1]
    rcases Nat.lt_or_ge j n with hj | hj
    · rw [tx_v h hj] at e
      by_cases c1 : f j = 43
      · rw [if_pos c1] at e
        exact go hj 43 c1 (by decide) (by decide) st_p (fun w => v + w) (fun w => if_pos rfl) e
      rw [if_neg c1] at e
      by_cases c2 : f j = 45
      · rw [if_pos c2] at e
        exact go hj 45 c2 (by decide) (by decide) st_m (fun w => v - w) (fun w => if_neg (by decide)) e
      rw [if_neg c2] at e
      cases e
      exact ⟨hv, z, rfl, hz, lo4_rf _ _, hp⟩
    · obtain rfl : j = n := by omega
      rw [tx_e j (Nat.lt_irrefl _), if_neg (by decide), if_neg (by decide)] at e
      cases e
      exact ⟨hv, z, rfl, hz, lo4_rf _ _, hp⟩
theorem w_su (h : txR t a n f) {F : Nat → PZ} {op : Nat} (hF : wP f n dd ll op F) (hB : ∀ k, k ≤ n → pB n k (F k)) : wS f n dd ll op (pSu t a n F) := by
  intro k z v k2 hk hz h1 h2 h3 h4 e
  unfold pSu at e
  have hb := hB k hk
  cases hFj : F k with
  | inl q => rw [hFj] at e; cases e
  | inr zz =>
    obtain ⟨w, k1⟩ := zz
    rw [hFj] at e hb
    have b2 : k1 ≤ n := hb.2
    obtain ⟨bw, y, y1, y2, y3, y4, y5, y6⟩ := hF k z w k1 hk hz h3 h4 hFj
    have m6 : rSum y = w := by
      unfold rSum
      rw [y2, y4, y5, y6, h1, h2]
      show rSm 0 w 43 = w
      unfold rSm
      rw [if_pos rfl, Int64.zero_add, bd_id bw]
    obtain ⟨bv, x, x1, x2, x3, x4⟩ := w_sl h hF hB (n + 1) w k1 y v k2 (by omega) b2 y2 m6 bw e
    exact ⟨bv, x, y1.trans x1, x2, lo4_tr y3 x3, x4⟩
theorem w_pS (h : txR t a n f) (hd : bdd dd.toInt64) (hl : bdd ll.toInt64) : ∀ (m op : Nat), op + m = 8 → wS f n dd ll op (pS t a n dd.toInt64 ll.toInt64 (m + 1))
  | 0, op, ho => by
    have hn := h.1
    refine w_su h (w_pr h ?_ (fun k hk => pFa_B (by omega) (fun k hk h1 => pS_B (by omega) 0 k hk (Or.inl h1)) k hk)) (fun k hk => pPr_B (fun k hk => pFa_B (by omega) (fun k hk h1 => pS_B (by omega) 0 k hk (Or.inl h1)) k hk) k hk)
    exact w_fa h hd hl (by omega) (fun _ _ => rfl) (fun z => absurd z (by omega)) (fun k hk h1 => pS_B (by omega) 0 k hk (Or.inl h1))
  | m + 1, op, ho => by
    have hn := h.1
    refine w_su h (w_pr h ?_ (fun k hk => pFa_B (by omega) (fun k hk h1 => pS_B (by omega) (m + 1) k hk (Or.inl h1)) k hk)) (fun k hk => pPr_B (fun k hk => pFa_B (by omega) (fun k hk h1 => pS_B (by omega) (m + 1) k hk (Or.inl h1)) k hk) k hk)
    exact w_fa h hd hl (by omega) (fun z => absurd z (by omega)) (fun _ => w_pS h hd hl m (op + 1) (by omega)) (fun k hk h1 => pS_B (by omega) (m + 1) k hk (Or.inl h1))
/-- a law without a fault: the two work out the same -/
theorem worth_eq (h : txR t a n f) (hd : bdd dd.toInt64) (hl : bdd ll.toInt64) {v : Int64} (e : pGo t a n dd.toInt64 ll.toInt64 = .inr v) (g : Nat → Int32) (hg : ∀ j, j < (tkF f n 0 0 0 (fun _ => 0)).2 → g j = (tkF f n 0 0 0 (fun _ => 0)).1 j) (S P : Nat → Int64) (sg pg : Nat → Int32) : rSum (rkV g (tkF f n 0 0 0 (fun _ => 0)).2 dd ll S P sg pg) = v := by
  obtain ⟨l1, -, l3⟩ := (tk_tl f n 0 0 (fun _ => 0)).1
  rw [Nat.zero_add] at l1
  unfold rkV
  rw [l1] at hg ⊢
  rw [rk_fold g dd ll (tlN f n 0 none) 0 _ (fun m hm => by rw [Nat.zero_add, hg m hm, ← l3 m hm, Nat.zero_add])]
  show rSum (wX f n dd ll 0 none (0, vp_updL S 0 0, vp_updL P 0 1, upd sg 0 43, upd pg 0 42)) = v
  unfold pGo at e
  cases hS : pS t a n dd.toInt64 ll.toInt64 (8 + 1) 0 with
  | inl q => rw [hS] at e; cases e
  | inr zz =>
    obtain ⟨w, k2⟩ := zz
    rw [hS] at e
    have hn := h.1
    have hb := pS_B (t := t) (a := a) (n := n) (gd := dd.toInt64) (gl := ll.toInt64) (by omega) (8 + 1) 0 (Nat.zero_le _) (Or.inr (by decide))
    rw [hS] at hb
    have b2 : k2 ≤ n := hb.2
    have e : (if lkV t a n (lk t a n k2) = -1 then (Sum.inr w : Nat ⊕ Int64) else Sum.inl (lk t a n k2)) = .inr v := e
    by_cases c : lkV t a n (lk t a n k2) = -1
    · rw [if_pos c] at e
      cases e
      obtain ⟨bv, y, y1, y2, y3, y4⟩ := w_pS h hd hl 8 0 rfl 0 (0, vp_updL S 0 0, vp_updL P 0 1, upd sg 0 43, upd pg 0 42) v k2 (Nat.zero_le _) rfl (show vp_updL S 0 0 0 = 0 from pk_uLs) (show upd sg 0 43 0 = 43 from pk_us) (show vp_updL P 0 1 0 = 1 from pk_uLs) (show upd pg 0 42 0 = 42 from pk_us) hS
      rw [y1, wX_lk h y b2]
      have hg2 := lk_ge t a n k2 b2
      have hk : lk t a n k2 = n := by
        rcases Nat.lt_or_ge (lk t a n k2) n with z | z
        · rw [tx_v h z] at c
          exact absurd c (tx_b h z)
        · omega
      rw [hk, wX_n, y4]
    · rw [if_neg c] at e; cases e
end WA
