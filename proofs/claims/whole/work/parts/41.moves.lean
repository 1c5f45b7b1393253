/-! ===== a row takes its lowest: what a move gives ===== -/
theorem vM_cg {E E2 : Nat → Nat → Bool} {f na nb : Nat} {tk tk2 : Nat → Bool} (hE : ∀ a b, f ≤ a → a < na → b < nb → E a b = E2 a b) (ht : ∀ b, b < nb → tk b = tk2 b) {h : Nat → Option Nat} (hv : vM E f na nb tk h) : vM E2 f na nb tk2 h :=
  ⟨fun b x hb e => by
    obtain ⟨g1, g2, g3, g4⟩ := hv.1 b x hb e
    exact ⟨g1, g2, by rw [← hE x b g1 g2 hb]; exact g3, by rw [← ht b hb]; exact g4⟩, hv.2⟩
theorem Mx_cg {E E2 : Nat → Nat → Bool} {f na nb : Nat} {tk tk2 : Nat → Bool} {n : Nat} (hE : ∀ a b, f ≤ a → a < na → b < nb → E a b = E2 a b) (ht : ∀ b, b < nb → tk b = tk2 b) (h : Mx E f na nb tk n) : Mx E2 f na nb tk2 n := by
  obtain ⟨⟨g, g1, g2⟩, g3⟩ := h
  exact ⟨⟨g, vM_cg hE ht g1, g2⟩, fun k hk => g3 k (vM_cg (fun a b l1 l2 l3 => (hE a b l1 l2 l3).symm) (fun b hb => (ht b hb).symm) hk)⟩
theorem kX_cg {E E2 : Nat → Nat → Bool} {f na nb : Nat} {tk tk2 : Nat → Bool} (hf : f ≤ na) (hE : ∀ a b, f ≤ a → a < na → b < nb → E a b = E2 a b) (ht : ∀ b, b < nb → tk b = tk2 b) : kX E f na nb tk = kX E2 f na nb tk2 := Mx_un (Mx_cg hE ht (kX_Mx hf)) (kX_Mx hf)
theorem Mx_kX {E : Nat → Nat → Bool} {f na nb : Nat} {tk : Nat → Bool} {n : Nat} (hf : f ≤ na) (h : Mx E f na nb tk n) : kX E f na nb tk = n := Mx_un (kX_Mx hf) h
/-- one row less, one place less: one pair less at the least -/
theorem mx_up {E : Nat → Nat → Bool} {row na nb other : Nat} {tk : Nat → Bool} {n m : Nat} (hr : row < na) (ho : other < nb) (hE : E row other = true) (ht : tk other = false) (h1 : Mx E row na nb tk n) (h2 : Mx E (row + 1) na nb (va_up tk other true) m) : m + 1 ≤ n := by
  obtain ⟨⟨g, g1, g2⟩, -⟩ := h2
  have tn : ∀ b, b ≠ other → va_up tk other true b = tk b := fun b hb => if_neg hb
  have hn : g other = none := by
    cases e : g other with
    | none => rfl
    | some x =>
      have := (g1.1 other x ho e).2.2.2
      rw [show va_up tk other true other = true from if_pos rfl] at this
      exact tf this
  have gn : ∀ b, b ≠ other → va_up g other (some row) b = g b := fun b hb => if_neg hb
  have ga : va_up g other (some row) other = some row := if_pos rfl
  have hv : vM E row na nb tk (va_up g other (some row)) := by
    refine ⟨fun b x hb e => ?_, fun b c x hb hc e1 e2 => ?_⟩
    · by_cases q : b = other
      · rw [q, ga] at e
        cases e
        rw [q]
        exact ⟨Nat.le_refl _, hr, hE, ht⟩
      · rw [gn b q] at e
        obtain ⟨k1, k2, k3, k4⟩ := g1.1 b x hb e
        rw [tn b q] at k4
        exact ⟨by omega, k2, k3, k4⟩
    · by_cases q : b = other <;> by_cases q2 : c = other
      · rw [q, q2]
      · rw [q, ga] at e1
        rw [gn c q2] at e2
        cases e1
        have := (g1.1 c row hc e2).1
        omega
      · rw [q2, ga] at e2
        rw [gn b q] at e1
        cases e2
        have := (g1.1 b row hb e1).1
        omega
      · rw [gn b q] at e1
        rw [gn c q2] at e2
        exact g1.2 b c x hb hc e1 e2
  have := h1.2 _ hv
  have c1 := cn_upd (fun y => y.isSome) g other (some row) nb ho
  have e2 : ((fun y : Option Nat => y.isSome) (g other)).toNat = 0 := by rw [hn]; rfl
  rw [e2] at c1
  have c1 : sz nb (va_up g other (some row)) = sz nb g + 1 := c1
  omega
def pJ (ag : Nat → Int32) (nb ns row : Nat) (so bo : Nat → Option Nat) : Prop := pM nb ns so bo ∧ pEV ag so ∧ Mx (pE ag) row nb ns (fun b => pKept bo b row) (sz ns (pRf bo row))
def pCd (ag : Nat → Int32) (nb ns row other : Nat) (bo : Nat → Option Nat) : Prop := kX (pE ag) (row + 1) nb ns (va_up (fun b => pKept bo b row) other true) + 1 = kX (pE ag) row nb ns (fun b => pKept bo b row)
theorem kept_next {nb ns row other : Nat} {so bo so2 bo2 : Nat → Option Nat} (hnb : nb ≤ 20) (hM : pM nb ns so bo) (hM2 : pM nb ns so2 bo2) (hr : row < nb) (ho : other < 20) (hlo : ∀ r, r < row → so2 r = so r) (hat : so2 row = some other) (b : Nat) (hb : b < 20) : pKept bo2 b (row + 1) = va_up (fun b => pKept bo b row) other true b := by
  by_cases q : b = other
  · rw [show va_up (fun b => pKept bo b row) other true b = true from if_pos q]
    exact pKept_iff.mpr ⟨row, by rw [q]; exact (hM2.2 row other (by omega) hat).2.2, by omega⟩
  · rw [show va_up (fun b => pKept bo b row) other true b = pKept bo b row from if_neg q, ← bo_ext hM hM2 hnb hlo b hb]
    cases h : pKept bo2 b row with
    | true =>
      obtain ⟨x, e1, e2⟩ := pKept_iff.mp h
      exact pKept_iff.mpr ⟨x, e1, by omega⟩
    | false =>
      cases h2 : pKept bo2 b (row + 1) with
      | false => rfl
      | true =>
        obtain ⟨x, e1, e2⟩ := pKept_iff.mp h2
        rcases Nat.lt_or_ge x row with w | w
        · rw [pKept_iff.mpr ⟨x, e1, w⟩] at h; exact tf h
        · obtain rfl : x = row := by omega
          have := (hM2.1 b x hb e1).2.2
          rw [hat] at this
          exact absurd (Option.some.inj this).symm q
theorem cnt_next {nb ns row other : Nat} {so bo so2 bo2 : Nat → Option Nat} (hnb : nb ≤ 20) (hns : ns ≤ 20) (hM : pM nb ns so bo) (hM2 : pM nb ns so2 bo2) (hr : row < nb) (ho : other < ns) (hk : pKept bo other row = false) (hlo : ∀ r, r < row → so2 r = so r) (hat : so2 row = some other) :
    sz ns bo2 + sz ns (pRf bo row) = sz ns bo + sz ns (pRf bo2 (row + 1)) + 1 := by
  have h1 := sz_Rf ns bo row
  have h2 := sz_Rf ns bo2 (row + 1)
  have h3 : fa_cnt (fun b => pKept bo2 b (row + 1)) ns = fa_cnt (fun b => pKept bo b row) ns + 1 := by
    rw [cn_rm (Q := fun b => pKept bo2 b (row + 1)) (c := other) (by show pKept bo2 other (row + 1) = true; rw [kept_next hnb hM hM2 hr (by omega) hlo hat other (by omega)]; exact if_pos rfl) ns ho]
    congr 1
    refine fa_cnt_cong (fun b hb => ?_)
    show (pKept bo2 b (row + 1) && decide (b ≠ other)) = pKept bo b row
    rw [kept_next hnb hM hM2 hr (by omega) hlo hat b (by omega)]
    by_cases q : b = other
    · rw [q, hk]; simp
    · rw [show va_up (fun b => pKept bo b row) other true b = pKept bo b row from if_neg q]; simp [q]
  omega
theorem mv_true {ag : Nat → Int32} {nb ns row other : Nat} {so bo so2 bo2 : Nat → Option Nat} (hnb : nb ≤ 20) (hns : ns ≤ 20) (hJ : pJ ag nb ns row so bo) (hr : row < nb) (ho : other < ns) (hE : pE ag row other = true) (hk : pKept bo other row = false) (hM2 : pM nb ns so2 bo2) (hE2 : pEV ag so2) (hlo : ∀ r, r < row → so2 r = so r) (hat : so2 row = some other) (hsz : sz ns bo2 = sz ns bo) :
    pJ ag nb ns (row + 1) so2 bo2 ∧ pCd ag nb ns row other bo := by
  obtain ⟨hM, -, hX⟩ := hJ
  have hc := cnt_next hnb hns hM hM2 hr ho hk hlo hat
  have hv := pRf_v (ff := row + 1) hns hnb hM2 hE2
  have hkn := fun b hb => kept_next hnb hM hM2 hr (show other < 20 by omega) hlo hat b (show b < 20 from Nat.lt_of_lt_of_le hb hns)
  have hv2 := vM_cg (E2 := pE ag) (tk2 := va_up (fun b => pKept bo b row) other true) (fun _ _ _ _ _ => rfl) hkn hv
  have hX2 := kX_Mx (E := pE ag) (f := row + 1) (na := nb) (nb := ns) (tk := va_up (fun b => pKept bo b row) other true) hr
  have hu := mx_up hr ho hE hk hX hX2
  have hl := hX2.2 _ hv2
  have e : kX (pE ag) (row + 1) nb ns (va_up (fun b => pKept bo b row) other true) = sz ns (pRf bo2 (row + 1)) := by omega
  refine ⟨⟨hM2, hE2, ?_⟩, ?_⟩
  · rw [e] at hX2
    exact Mx_cg (fun _ _ _ _ _ => rfl) (fun b hb => (hkn b hb).symm) hX2
  · unfold pCd
    rw [Mx_kX (Nat.le_of_lt hr) hX]
    omega
theorem mv_false {ag : Nat → Int32} {nb ns row other : Nat} {so bo so2 bo2 rf : Nat → Option Nat} {wt : Nat → Nat} (hnb : nb ≤ 20) (hns : ns ≤ 20) (hJ : pJ ag nb ns row so bo) (hr : row < nb) (ho : other < ns) (hk : pKept bo other row = false) (hM2 : pM nb ns so2 bo2) (hE2 : pEV ag so2) (hlo : ∀ r, r < row → so2 r = so r) (hat : so2 row = some other) (hsz : sz ns bo2 + 1 = sz ns bo)
    (hz : (pmS so2 bo2 ag nb ns (row + 1) rf wt).1 = none) : ¬ pCd ag nb ns row other bo := by
  obtain ⟨hM, -, hX⟩ := hJ
  have hc := cnt_next hnb hns hM hM2 hr ho hk hlo hat
  have hkn := fun b hb => kept_next hnb hM hM2 hr (show other < 20 by omega) hlo hat b (show b < 20 from Nat.lt_of_lt_of_le hb hns)
  have hX2 := Mx_cg (E2 := pE ag) (tk2 := va_up (fun b => pKept bo b row) other true) (fun _ _ _ _ _ => rfl) hkn (pm_none hns hnb hr hM2 hE2 hz)
  unfold pCd
  rw [Mx_kX (Nat.le_of_lt hr) hX, Mx_kX hr hX2]
  omega
def mvO (so : Nat → Option Nat) (row other : Nat) (x : Option Nat) : Nat → Option Nat := va_up (match x with | none => so | some q => va_up so q none) row (some other)
/-- a row moved: the rows as they are when a pair may be lost -/
theorem mv_re {ag : Nat → Int32} {nb ns row other : Nat} {so bo : Nat → Option Nat} (hnb : nb ≤ 20) (hns : ns ≤ 20) (hM : pM nb ns so bo) (hEV : pEV ag so) (hr : row < nb) (ho : other < ns) (hE : pE ag row other = true) (hk : pKept bo other row = false) (hne : ¬ so row = some other) :
    pM nb ns (mvO so row other (bo other)) (mvO bo other row (so row)) ∧ pEV ag (mvO so row other (bo other)) ∧ (∀ r, r < row → mvO so row other (bo other) r = so r) ∧ mvO so row other (bo other) row = some other ∧
    sz ns (mvO bo other row (so row)) + (so row).isSome.toNat + (bo other).isSome.toNat = sz ns bo + 1 := by
  have o20 : other < 20 := by omega
  have r20 : row < 20 := by omega
  -- the two rows after the first puts
  have s1 : ∀ r, mvO so row other (bo other) r = if r = row then some other else if bo other = some r then none else so r := fun r => by
    unfold mvO
    by_cases q : r = row
    · rw [if_pos q]; exact if_pos q
    · rw [if_neg q]
      show (if r = row then some other else _) = _
      rw [if_neg q]
      cases h : bo other with
      | none => rw [if_neg (by simp)]
      | some x =>
        by_cases q2 : r = x
        · rw [if_pos (by rw [q2])]; exact if_pos q2
        · rw [if_neg (fun z => q2 (Option.some.inj z).symm)]; exact if_neg q2
  have b1 : ∀ b, mvO bo other row (so row) b = if b = other then some row else if so row = some b then none else bo b := fun b => by
    unfold mvO
    by_cases q : b = other
    · rw [if_pos q]; exact if_pos q
    · rw [if_neg q]
      show (if b = other then some row else _) = _
      rw [if_neg q]
      cases h : so row with
      | none => rw [if_neg (by simp)]
      | some x =>
        by_cases q2 : b = x
        · rw [if_pos (by rw [q2])]; exact if_pos q2
        · rw [if_neg (fun z => q2 (Option.some.inj z).symm)]; exact if_neg q2
  have hrb : ∀ x, bo other = some x → row < x := fun x e => by
    rcases Nat.lt_or_ge x row with w | w
    · rw [pKept_iff.mpr ⟨x, e, w⟩] at hk; exact tf hk
    · rcases Nat.eq_or_lt_of_le w with w | w
      · exact absurd (by rw [w]; exact (hM.1 other x o20 e).2.2) hne
      · exact w
  refine ⟨⟨fun b x hb e => ?_, fun r b hb e => ?_⟩, fun r b hb e => ?_, fun r hlt => ?_, ?_, ?_⟩
  · rw [b1 b] at e
    by_cases q : b = other
    · rw [if_pos q] at e
      cases e
      exact ⟨hr, by omega, by rw [s1 row, if_pos rfl, q]⟩
    · rw [if_neg q] at e
      by_cases q2 : so row = some b
      · rw [if_pos q2] at e; cases e
      · rw [if_neg q2] at e
        obtain ⟨g1, g2, g3⟩ := hM.1 b x hb e
        refine ⟨g1, g2, ?_⟩
        have q3 : x ≠ row := fun z => q2 (by rw [← z]; exact g3)
        have q4 : ¬ bo other = some x := fun z => by
          have := (hM.1 other x o20 z).2.2
          rw [g3] at this
          exact q (Option.some.inj this)
        rw [s1 x, if_neg q3, if_neg q4]
        exact g3
  · rw [s1 r] at e
    by_cases q : r = row
    · rw [if_pos q] at e
      cases e
      exact ⟨by omega, ho, by rw [b1 other, if_pos rfl, q]⟩
    · rw [if_neg q] at e
      by_cases q2 : bo other = some r
      · rw [if_pos q2] at e; cases e
      · rw [if_neg q2] at e
        obtain ⟨g1, g2, g3⟩ := hM.2 r b hb e
        refine ⟨g1, g2, ?_⟩
        have q3 : b ≠ other := fun z => q2 (by rw [← z]; exact g3)
        have q4 : ¬ so row = some b := fun z => by
          have := (hM.2 row b r20 z).2.2
          rw [g3] at this
          exact q (Option.some.inj this)
        rw [b1 b, if_neg q3, if_neg q4]
        exact g3
  · rw [s1 r] at e
    by_cases q : r = row
    · rw [if_pos q] at e
      cases e
      rw [q]; exact hE
    · rw [if_neg q] at e
      by_cases q2 : bo other = some r
      · rw [if_pos q2] at e; cases e
      · rw [if_neg q2] at e
        exact hEV r b hb e
  · rw [s1 r, if_neg (by omega), if_neg (fun z => by have := hrb r z; omega)]
  · rw [s1 row, if_pos rfl]
  · cases hl : so row with
    | none =>
      have := cn_upd (fun y => y.isSome) bo other (some row) ns ho
      have : sz ns (va_up bo other (some row)) + (bo other).isSome.toNat = sz ns bo + 1 := this
      show sz ns (va_up bo other (some row)) + 0 + _ = _
      omega
    | some q =>
      obtain ⟨g1, g2, g3⟩ := hM.2 row q r20 hl
      have qo : other ≠ q := fun z => hne (by rw [hl, z])
      have h1 := cn_upd (fun y => y.isSome) bo q none ns g2
      have h1 : sz ns (va_up bo q none) + (bo q).isSome.toNat = sz ns bo + 0 := h1
      rw [g3] at h1
      have h1 : sz ns (va_up bo q none) + 1 = sz ns bo + 0 := h1
      have h2 := cn_upd (fun y => y.isSome) (va_up bo q none) other (some row) ns ho
      have h2 : sz ns (va_up (va_up bo q none) other (some row)) + (va_up bo q none other).isSome.toNat = sz ns (va_up bo q none) + 1 := h2
      rw [show va_up bo q none other = bo other from if_neg qo] at h2
      show sz ns (va_up (va_up bo q none) other (some row)) + 1 + _ = _
      omega
theorem mv_max {ag : Nat → Int32} {nb ns row : Nat} {so bo so2 bo2 : Nat → Option Nat} (hnb : nb ≤ 20) (hns : ns ≤ 20) (hJ : pJ ag nb ns row so bo) (hM2 : pM nb ns so2 bo2) (hE2 : pEV ag so2) (hlo : ∀ r, r < row → so2 r = so r) : sz ns bo2 ≤ sz ns bo := by
  obtain ⟨hM, -, hX⟩ := hJ
  have hv := vM_cg (E2 := pE ag) (tk2 := fun b => pKept bo b row) (fun _ _ _ _ _ => rfl) (fun b hb => bo_ext hM hM2 hnb hlo b (by omega)) (pRf_v (ff := row) hns hnb hM2 hE2)
  have h0 := hX.2 _ hv
  have h1 := sz_Rf ns bo row
  have h2 := sz_Rf ns bo2 row
  have h3 : fa_cnt (fun b => pKept bo2 b row) ns = fa_cnt (fun b => pKept bo b row) ns := fa_cnt_cong (fun b hb => bo_ext hM hM2 hnb hlo b (by omega))
  omega
/-- put back -/
theorem mv_back {nb ns row other lf rb : Nat} {so bo : Nat → Option Nat} (hM : pM nb ns so bo) (ho : other < 20) (hr : row < 20) (e1 : so row = some lf) (e2 : bo other = some rb) (hne : ¬ so row = some other) :
    va_up (va_up (va_up (va_up so rb none) row (some other)) row (some lf)) rb (some other) = so ∧ va_up (va_up (va_up (va_up bo lf none) other (some row)) lf (some row)) other (some rb) = bo := by
  have g1 := (hM.1 other rb ho e2).2.2
  have g2 := (hM.2 row lf hr e1).2.2
  constructor
  · funext q
    unfold va_up
    by_cases h : q = rb
    · rw [if_pos h, h, g1]
    · rw [if_neg h]
      by_cases h2 : q = row
      · rw [if_pos h2, h2, e1]
      · rw [if_neg h2, if_neg h2, if_neg h]
  · funext q
    unfold va_up
    by_cases h : q = other
    · rw [if_pos h, h, e2]
    · rw [if_neg h]
      by_cases h2 : q = lf
      · rw [if_pos h2, h2, g2]
      · rw [if_neg h2, if_neg h, if_neg h2]
/-- no place can be taken: the row has none -/
theorem mv_none {ag : Nat → Int32} {nb ns row : Nat} {so bo : Nat → Option Nat} (hnb : nb ≤ 20) (hns : ns ≤ 20) (hJ : pJ ag nb ns row so bo) (hr : row < nb) (h : ∀ b, b < ns → pE ag row b = true → pKept bo b row = false → ¬ pCd ag nb ns row b bo) :
    so row = none ∧ pJ ag nb ns (row + 1) so bo ∧ (∀ b, b < ns → pKept bo b (row + 1) = pKept bo b row) ∧ sz ns (pRf bo (row + 1)) = sz ns (pRf bo row) := by
  have hJ2 := hJ
  obtain ⟨hM, hE, hX⟩ := hJ
  have h0 : so row = none := by
    cases e : so row with
    | none => rfl
    | some b =>
      obtain ⟨g1, g2, g3⟩ := hM.2 row b (by omega) e
      have hk : pKept bo b row = false := by
        cases w : pKept bo b row with
        | false => rfl
        | true =>
          obtain ⟨x, w1, w2⟩ := pKept_iff.mp w
          rw [g3] at w1
          cases w1
          omega
      have hE1 := hE row b (by omega) e
      exact absurd (mv_true hnb hns hJ2 hr g2 hE1 hk hM hE (fun _ _ => rfl) e rfl).2 (h b g2 hE1 hk)
  have hk : ∀ b, b < ns → pKept bo b (row + 1) = pKept bo b row := fun b hb => by
    cases w : pKept bo b row with
    | true =>
      obtain ⟨x, w1, w2⟩ := pKept_iff.mp w
      exact pKept_iff.mpr ⟨x, w1, by omega⟩
    | false =>
      cases w2 : pKept bo b (row + 1) with
      | false => rfl
      | true =>
        obtain ⟨x, e1, e2⟩ := pKept_iff.mp w2
        rcases Nat.lt_or_ge x row with q | q
        · rw [pKept_iff.mpr ⟨x, e1, q⟩] at w; exact tf w
        · obtain rfl : x = row := by omega
          have := (hM.1 b x (by omega) e1).2.2
          rw [h0] at this
          cases this
  have hs : sz ns (pRf bo (row + 1)) = sz ns (pRf bo row) := by
    have h1 := sz_Rf ns bo row
    have h2 := sz_Rf ns bo (row + 1)
    have h3 : fa_cnt (fun b => pKept bo b (row + 1)) ns = fa_cnt (fun b => pKept bo b row) ns := fa_cnt_cong hk
    omega
  refine ⟨h0, ⟨hM, hE, ⟨⟨_, pRf_v hns hnb hM hE, rfl⟩, fun g hg => ?_⟩⟩, hk, hs⟩
  rw [hs]
  refine hX.2 g ⟨fun b x hb e => ?_, hg.2⟩
  obtain ⟨k1, k2, k3, k4⟩ := hg.1 b x hb e
  exact ⟨by omega, k2, k3, (hk b hb).symm.trans k4⟩
/-- the choices one after the other -/
def cS (E : Nat → Nat → Bool) (na nb : Nat) : Nat → Nat × (Nat → Bool)
  | 0 => (kX E 0 na nb (fun _ => false), fun _ => false)
  | a + 1 => (pLf (cS E na nb a).1 (pI E na nb a (cS E na nb a).1 (cS E na nb a).2 nb 0), pT (cS E na nb a).2 (pI E na nb a (cS E na nb a).1 (cS E na nb a).2 nb 0))
def cX (E : Nat → Nat → Bool) (na nb a : Nat) : Option Nat := pI E na nb a (cS E na nb a).1 (cS E na nb a).2 nb 0
theorem pI_cg {E E2 : Nat → Nat → Bool} {na nb a lf : Nat} {tk tk2 : Nat → Bool} (ha : a < na) (hE : ∀ a b, a < na → b < nb → E a b = E2 a b) (ht : ∀ b, b < nb → tk b = tk2 b) : ∀ r b, b + r = nb → pI E na nb a lf tk r b = pI E2 na nb a lf tk2 r b
  | 0, b, _ => rfl
  | r + 1, b, hb => by
    have ih := pI_cg (E := E) (E2 := E2) (lf := lf) ha hE ht r (b + 1) (by omega)
    have hk : kX E (a + 1) na nb (va_up tk b true) = kX E2 (a + 1) na nb (va_up tk2 b true) := kX_cg ha (fun a b _ l2 l3 => hE a b l2 l3) (fun c hc => by
      by_cases q : c = b
      · rw [show va_up tk b true c = true from if_pos q, show va_up tk2 b true c = true from if_pos q]
      · rw [show va_up tk b true c = tk c from if_neg q, show va_up tk2 b true c = tk2 c from if_neg q, ht c hc])
    rw [pI, pI, ih, hk, ht b (by omega), hE a b ha (by omega)]
theorem pI_none {E : Nat → Nat → Bool} {na nb a lf : Nat} {tk : Nat → Bool} : ∀ r b, b + r = nb → pI E na nb a lf tk r b = none → ∀ c, b ≤ c → c < nb → E a c = true → tk c = false → ¬ kX E (a + 1) na nb (va_up tk c true) + 1 = lf
  | 0, b, hb, _, c, l1, l2, _, _ => by omega
  | r + 1, b, hb, h, c, l1, l2, l3, l4 => by
    have ih := fun h l => pI_none (E := E) (na := na) (a := a) (lf := lf) (tk := tk) r (b + 1) (by omega) h c l l2 l3 l4
    rw [pI] at h
    rcases Nat.eq_or_lt_of_le l1 with w | w
    · subst w
      rw [l4, if_neg (by decide), if_pos l3] at h
      split at h
      · cases h
      · assumption
    · split at h
      · exact ih h w
      split at h
      · split at h
        · cases h
        · exact ih h w
      · exact ih h w
theorem pP_cX (E : Nat → Nat → Bool) (na nb : Nat) : ∀ r a, pP E na nb r a (cS E na nb a).1 (cS E na nb a).2 = cX E na nb (a + r)
  | 0, a => rfl
  | r + 1, a => by
    rw [pP, show a + (r + 1) = a + 1 + r by omega]
    exact pP_cX E na nb r (a + 1)
theorem cS_cg {E E2 : Nat → Nat → Bool} {na nb : Nat} (hE : ∀ a b, a < na → b < nb → E a b = E2 a b) : ∀ a, a ≤ na → cS E na nb a = cS E2 na nb a
  | 0, _ => by rw [cS, cS, kX_cg (Nat.zero_le _) (fun a b _ l2 l3 => hE a b l2 l3) (fun _ _ => rfl)]
  | a + 1, h => by rw [cS, cS, cS_cg hE a (by omega), pI_cg (E := E) (E2 := E2) h hE (fun _ _ => rfl) nb 0 (Nat.zero_add _)]
theorem cX_cg {E E2 : Nat → Nat → Bool} {na nb a : Nat} (ha : a < na) (hE : ∀ a b, a < na → b < nb → E a b = E2 a b) : cX E na nb a = cX E2 na nb a := by
  rw [cX, cX, cS_cg hE a (Nat.le_of_lt ha), pI_cg (E := E) (E2 := E2) ha hE (fun _ _ => rfl) nb 0 (Nat.zero_add _)]
/-- what holds when rows < row have their choice -/
def pSt (ag : Nat → Int32) (nb ns row : Nat) (so bo : Nat → Option Nat) : Prop :=
  pJ ag nb ns row so bo ∧ (cS (pE ag) nb ns row).1 = sz ns (pRf bo row) ∧ (∀ b, b < ns → (cS (pE ag) nb ns row).2 b = pKept bo b row) ∧ ∀ q, q < row → so q = cX (pE ag) nb ns q
theorem st_some {ag : Nat → Int32} {nb ns row other : Nat} {so bo so2 bo2 : Nat → Option Nat} (hnb : nb ≤ 20) (hns : ns ≤ 20) (hr : row < nb) (ho : other < ns) (h : pSt ag nb ns row so bo) (hk : pKept bo other row = false) (hJ : pJ ag nb ns (row + 1) so2 bo2) (hlo : ∀ r, r < row → so2 r = so r) (hat : so2 row = some other) (hsz : sz ns bo2 = sz ns bo) (hc : cX (pE ag) nb ns row = some other) : pSt ag nb ns (row + 1) so2 bo2 := by
  obtain ⟨h1, h2, h3, h4⟩ := h
  have hct := cnt_next hnb hns h1.1 hJ.1 hr ho hk hlo hat
  have e : pI (pE ag) nb ns row (cS (pE ag) nb ns row).1 (cS (pE ag) nb ns row).2 ns 0 = some other := hc
  refine ⟨hJ, ?_, fun b hb => ?_, fun q hq => ?_⟩
  · rw [cS, e, h2]
    show sz ns (pRf bo row) - 1 = _
    omega
  · rw [cS, e, kept_next hnb h1.1 hJ.1 hr (by omega) hlo hat b (by omega)]
    show va_up (cS (pE ag) nb ns row).2 other true b = _
    by_cases q : b = other
    · rw [show va_up (cS (pE ag) nb ns row).2 other true b = true from if_pos q, show va_up (fun b => pKept bo b row) other true b = true from if_pos q]
    · rw [show va_up (cS (pE ag) nb ns row).2 other true b = (cS (pE ag) nb ns row).2 b from if_neg q, show va_up (fun b => pKept bo b row) other true b = pKept bo b row from if_neg q, h3 b hb]
  · rcases Nat.lt_or_ge q row with w | w
    · rw [hlo q w]; exact h4 q w
    · obtain rfl : q = row := by omega
      rw [hat, hc]
theorem st_none {ag : Nat → Int32} {nb ns row : Nat} {so bo : Nat → Option Nat} (hnb : nb ≤ 20) (hns : ns ≤ 20) (hr : row < nb) (h : pSt ag nb ns row so bo) (hc : cX (pE ag) nb ns row = none) : pSt ag nb ns (row + 1) so bo := by
  have hh := h
  obtain ⟨h1, h2, h3, h4⟩ := h
  have e : pI (pE ag) nb ns row (cS (pE ag) nb ns row).1 (cS (pE ag) nb ns row).2 ns 0 = none := hc
  have hno : ∀ b, b < ns → pE ag row b = true → pKept bo b row = false → ¬ pCd ag nb ns row b bo := fun b hb hE hk => by
    have := pI_none ns 0 (Nat.zero_add _) e b (Nat.zero_le _) hb hE (by rw [h3 b hb]; exact hk)
    unfold pCd
    rw [Mx_kX (Nat.le_of_lt hr) h1.2.2, ← h2]
    rw [kX_cg (E2 := pE ag) (tk2 := va_up (fun b => pKept bo b row) b true) hr (fun _ _ _ _ _ => rfl) (fun c hc => by
      by_cases q : c = b
      · rw [show va_up (cS (pE ag) nb ns row).2 b true c = true from if_pos q, show va_up (fun b => pKept bo b row) b true c = true from if_pos q]
      · rw [show va_up (cS (pE ag) nb ns row).2 b true c = (cS (pE ag) nb ns row).2 c from if_neg q, show va_up (fun b => pKept bo b row) b true c = pKept bo c row from if_neg q, h3 c hc])] at this
    exact this
  obtain ⟨g1, g2, g3, g4⟩ := mv_none hnb hns h1 hr hno
  refine ⟨g2, ?_, fun b hb => ?_, fun q hq => ?_⟩
  · rw [cS, e, h2, g4]; rfl
  · rw [cS, e, g3 b hb]; exact h3 b hb
  · rcases Nat.lt_or_ge q row with w | w
    · exact h4 q w
    · obtain rfl : q = row := by omega
      rw [g1, hc]
theorem st_cd {ag : Nat → Int32} {nb ns row b : Nat} {so bo : Nat → Option Nat} (hr : row < nb) (h : pSt ag nb ns row so bo) : pCd ag nb ns row b bo ↔ kX (pE ag) (row + 1) nb ns (va_up (cS (pE ag) nb ns row).2 b true) + 1 = (cS (pE ag) nb ns row).1 := by
  obtain ⟨h1, h2, h3, h4⟩ := h
  unfold pCd
  rw [Mx_kX (Nat.le_of_lt hr) h1.2.2, h2, kX_cg (E2 := pE ag) (tk2 := va_up (cS (pE ag) nb ns row).2 b true) hr (fun _ _ _ _ _ => rfl) (fun c hc => by
      by_cases q : c = b
      · rw [show va_up (cS (pE ag) nb ns row).2 b true c = true from if_pos q, show va_up (fun b => pKept bo b row) b true c = true from if_pos q]
      · rw [show va_up (cS (pE ag) nb ns row).2 b true c = (cS (pE ag) nb ns row).2 c from if_neg q, show va_up (fun b => pKept bo b row) b true c = pKept bo c row from if_neg q, h3 c hc])]
