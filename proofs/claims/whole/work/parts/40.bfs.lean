/-! ===== ways from a row without a pair: what the search keeps, and what its end shows ===== -/
theorem inj_le {n nb : Nat} {w : Nat → Nat} (h1 : ∀ j k, j < n → k < n → w j = w k → j = k) (h2 : ∀ j, j < n → w j < nb) : n ≤ nb := by
  have h := cn_rel (fun j x => w j = x) n nb (fun _ => true) (fun _ => true) (fun j hj _ => ⟨w j, h2 j hj, rfl, rfl⟩) (fun a b c l1 l2 _ _ r1 r2 => h1 a b l1 l2 (r1.trans r2.symm))
  have e : ∀ m, fa_cnt (fun _ => true) m = m := fun m => by
    induction m with
    | zero => rfl
    | succ m ih => rw [fa_cnt_yes rfl, ih]
  rw [e, e] at h
  exact h
def bW (so bo : Nat → Option Nat) (ag : Nat → Int32) (nb ns ff : Nat) (rf : Nat → Option Nat) (wt : Nat → Nat) (n : Nat) : Prop :=
  (∀ j k, j < n → k < n → wt j = wt k → j = k) ∧ (∀ j, j < n → ff ≤ wt j ∧ wt j < nb) ∧
  (∀ j, j < n → so (wt j) = none ∨ ∃ o j2, so (wt j) = some o ∧ j2 < j ∧ rf o = some (wt j2)) ∧
  (∀ b r, b < 20 → rf b = some r → b < ns ∧ (∃ j, j < n ∧ r = wt j) ∧ abit (ag r) b = true ∧ pKept bo b ff = false ∧ ∀ x, bo b = some x → ∃ j, j < n ∧ wt j = x) ∧
  (∀ r, ff ≤ r → r < nb → so r = none → ∃ j, j < n ∧ wt j = r)
theorem wtF_b (so : Nat → Option Nat) (ff nb : Nat) : ∀ (r row : Nat) (wt : Nat → Nat) (n : Nat), row + r = nb →
    ((∀ j k, j < n → k < n → wt j = wt k → j = k) ∧ (∀ j, j < n → ff ≤ wt j ∧ wt j < row ∧ so (wt j) = none) ∧ ∀ r, ff ≤ r → r < row → so r = none → ∃ j, j < n ∧ wt j = r) → ff ≤ row →
    ((∀ j k, j < (wtF so r row wt n).2 → k < (wtF so r row wt n).2 → (wtF so r row wt n).1 j = (wtF so r row wt n).1 k → j = k) ∧ (∀ j, j < (wtF so r row wt n).2 → ff ≤ (wtF so r row wt n).1 j ∧ (wtF so r row wt n).1 j < nb ∧ so ((wtF so r row wt n).1 j) = none) ∧ ∀ r1, ff ≤ r1 → r1 < nb → so r1 = none → ∃ j, j < (wtF so r row wt n).2 ∧ (wtF so r row wt n).1 j = r1)
  | 0, row, wt, n, h, ⟨h1, h2, h3⟩, _ => ⟨h1, fun j hj => ⟨(h2 j hj).1, by have := (h2 j hj).2.1; show wt j < nb; omega, (h2 j hj).2.2⟩, fun r1 l1 l2 => h3 r1 l1 (by omega)⟩
  | r + 1, row, wt, n, h, ⟨h1, h2, h3⟩, hf => by
    rw [wtF]
    split
    · next q =>
      have old : ∀ j, j < n → va_up wt n row j = wt j := fun j hj => if_neg (by omega)
      have new : va_up wt n row n = row := if_pos rfl
      refine wtF_b so ff nb r (row + 1) (va_up wt n row) (n + 1) (by omega) ⟨fun j k hj hk e => ?_, fun j hj => ?_, fun r1 l1 l2 e => ?_⟩ (by omega)
      · rcases Nat.lt_or_ge j n with z | z <;> rcases Nat.lt_or_ge k n with z2 | z2
        · rw [old j z, old k z2] at e; exact h1 j k z z2 e
        · obtain rfl : k = n := by omega
          rw [old j z, new] at e
          have := (h2 j z).2.1
          omega
        · obtain rfl : j = n := by omega
          rw [old k z2, new] at e
          have := (h2 k z2).2.1
          omega
        · omega
      · rcases Nat.lt_or_ge j n with z | z
        · rw [old j z]
          have := h2 j z
          exact ⟨this.1, by omega, this.2.2⟩
        · obtain rfl : j = n := by omega
          rw [new]
          exact ⟨hf, by omega, q⟩
      · rcases Nat.lt_or_ge r1 row with z | z
        · obtain ⟨j, hj, e1⟩ := h3 r1 l1 z e
          exact ⟨j, by omega, by rw [old j hj]; exact e1⟩
        · exact ⟨n, by omega, by rw [new]; omega⟩
    · next q =>
      refine wtF_b so ff nb r (row + 1) wt n (by omega) ⟨h1, fun j hj => ?_, fun r1 l1 l2 e => ?_⟩ (by omega)
      · have := h2 j hj
        exact ⟨this.1, by omega, this.2.2⟩
      · rcases Nat.lt_or_ge r1 row with z | z
        · exact h3 r1 l1 z e
        · obtain rfl : r1 = row := by omega
          exact absurd e q
/-- what one row's turn gives -/
def bT (so bo : Nat → Option Nat) (ag : Nat → Int32) (nb ns ff row o : Nat) (rf : Nat → Option Nat) (wt : Nat → Nat) (n : Nat) (z : BS) : Prop :=
  bW so bo ag nb ns ff z.2.1 z.2.2.1 z.2.2.2 ∧ (∀ b, ¬ rf b = none → z.2.1 b = rf b) ∧ n ≤ z.2.2.2 ∧ (∀ j, j < n → z.2.2.1 j = wt j) ∧
  (z.1 = none → ∀ b, o ≤ b → b < ns → abit (ag row) b = true → pKept bo b ff = true ∨ ¬ z.2.1 b = none) ∧
  ∀ e, z.1 = some e → e < ns ∧ bo e = none ∧ ∃ j, j < z.2.2.2 ∧ z.2.1 e = some (z.2.2.1 j)
theorem bfI_T {so bo : Nat → Option Nat} {ag : Nat → Int32} {nb ns ff : Nat} (hnb : nb ≤ 20) (hns : ns ≤ 20) (hM : pM nb ns so bo) (row : Nat) : ∀ (r o : Nat) (rf : Nat → Option Nat) (wt : Nat → Nat) (n : Nat), o + r = ns → bW so bo ag nb ns ff rf wt n → (∃ i, i < n ∧ row = wt i) → bT so bo ag nb ns ff row o rf wt n (bfI ag bo ff row r o rf wt n)
  | 0, o, rf, wt, n, ho, hW, _ => ⟨hW, fun _ _ => rfl, Nat.le_refl _, fun _ _ => rfl, fun _ b l1 l2 => by omega, fun e z => by cases z⟩
  | r + 1, o, rf, wt, n, ho, hW, hi => by
    have skip : (abit (ag row) o = false ∨ pKept bo o ff = true ∨ ¬ rf o = none) → bT so bo ag nb ns ff row o rf wt n (bfI ag bo ff row r (o + 1) rf wt n) := fun hw => by
      obtain ⟨t1, t2, t3, t4, t5, t6⟩ := bfI_T hnb hns hM row r (o + 1) rf wt n (by omega) hW hi
      refine ⟨t1, t2, t3, t4, fun z b l1 l2 hE => ?_, t6⟩
      rcases Nat.lt_or_ge o b with w | w
      · exact t5 z b w l2 hE
      · obtain rfl : b = o := by omega
        rcases hw with w | w | w
        · rw [w] at hE; exact ft hE
        · exact Or.inl w
        · exact Or.inr (by rw [t2 b w]; exact w)
    rw [bfI]
    split
    · next h => exact skip (Or.inl h)
    next hE =>
    have hE : abit (ag row) o = true := by cases h : abit (ag row) o with | true => rfl | false => exact absurd h hE
    split
    · next hrf =>
      split
      · next h => exact skip (Or.inr (Or.inl h))
      next hk =>
      have hk : pKept bo o ff = false := by cases h : pKept bo o ff with | false => rfl | true => exact absurd h hk
      obtain ⟨w1, w2, w3, w4, w5⟩ := hW
      obtain ⟨i, hin, hir⟩ := hi
      have o20 : o < 20 := by omega
      have rat : va_up rf o (some row) o = some row := if_pos rfl
      have rne : ∀ b, b ≠ o → va_up rf o (some row) b = rf b := fun b hb => if_neg hb
      have keep3 : ∀ j, j < n → so (wt j) = none ∨ ∃ o2 j2, so (wt j) = some o2 ∧ j2 < j ∧ va_up rf o (some row) o2 = some (wt j2) := fun j hj => by
        rcases w3 j hj with h | ⟨o2, j2, e1, e2, e3⟩
        · exact Or.inl h
        · refine Or.inr ⟨o2, j2, e1, e2, ?_⟩
          rw [rne o2 (fun e => by rw [e, hrf] at e3; cases e3)]
          exact e3
      split
      · next hb0 =>
        refine ⟨⟨w1, w2, keep3, fun b r1 hb e => ?_, w5⟩, fun b hb => rne b (fun e => hb (by rw [e]; exact hrf)), Nat.le_refl _, fun _ _ => rfl, fun z => (by cases z), fun e z => ?_⟩
        · have e : va_up rf o (some row) b = some r1 := e
          by_cases q : b = o
          · subst q
            rw [show va_up rf b (some row) b = some row from if_pos rfl] at e
            cases e
            exact ⟨by omega, ⟨i, hin, hir⟩, hE, hk, fun x hx => by rw [hb0] at hx; cases hx⟩
          · rw [rne b q] at e
            exact w4 b r1 hb e
        · cases z
          exact ⟨by omega, hb0, i, hin, by show va_up rf o (some row) o = some (wt i); rw [← hir]; exact rat⟩
      · next hb0 =>
        obtain ⟨x, ex⟩ : ∃ x, bo o = some x := Option.ne_none_iff_exists'.mp hb0
        obtain ⟨x1, x2, x3⟩ := hM.1 o x o20 ex
        have xff : ff ≤ x := by
          rcases Nat.lt_or_ge x ff with q | q
          · rw [show pKept bo o ff = true by unfold pKept; rw [ex]; exact decide_eq_true q] at hk
            exact tf hk
          · exact q
        have xnew : ∀ j, j < n → wt j ≠ x := fun j hj e => by
          rcases w3 j hj with h | ⟨o2, j2, e1, e2, e3⟩
          · rw [e, x3] at h; cases h
          · rw [e, x3] at e1
            cases e1
            rw [hrf] at e3
            cases e3
        have old : ∀ j, j < n → va_up wt n x j = wt j := fun j hj => if_neg (by omega)
        have new : va_up wt n x n = x := if_pos rfl
        have wi : ∀ j k, j < n + 1 → k < n + 1 → va_up wt n x j = va_up wt n x k → j = k := fun j k hj hk e => by
          rcases Nat.lt_or_ge j n with z | z <;> rcases Nat.lt_or_ge k n with z2 | z2
          · rw [old j z, old k z2] at e; exact w1 j k z z2 e
          · obtain rfl : k = n := by omega
            rw [old j z, new] at e
            exact absurd e (xnew j z)
          · obtain rfl : j = n := by omega
            rw [old k z2, new] at e
            exact absurd e.symm (xnew k z2)
          · omega
        have wr : ∀ j, j < n + 1 → ff ≤ va_up wt n x j ∧ va_up wt n x j < nb := fun j hj => by
          rcases Nat.lt_or_ge j n with z | z
          · rw [old j z]; exact w2 j z
          · obtain rfl : j = n := by omega
            rw [new]; exact ⟨xff, x1⟩
        have hn20 : n < 20 := by
          have := inj_le wi (fun j hj => (wr j hj).2)
          omega
        rw [if_pos hn20, ex, Option.getD_some]
        have hW2 : bW so bo ag nb ns ff (va_up rf o (some row)) (va_up wt n x) (n + 1) := by
          refine ⟨wi, wr, fun j hj => ?_, fun b r1 hb e => ?_, fun r1 l1 l2 e => ?_⟩
          · rcases Nat.lt_or_ge j n with z | z
            · rw [old j z]
              rcases keep3 j z with h | ⟨o2, j2, e1, e2, e3⟩
              · exact Or.inl h
              · exact Or.inr ⟨o2, j2, e1, e2, by rw [old j2 (by omega)]; exact e3⟩
            · obtain rfl : j = n := by omega
              rw [new]
              exact Or.inr ⟨o, i, x3, hin, by rw [old i hin, ← hir]; exact rat⟩
          · by_cases q : b = o
            · subst q
              rw [show va_up rf b (some row) b = some row from if_pos rfl] at e
              cases e
              exact ⟨by omega, ⟨i, by omega, by rw [old i hin]; exact hir⟩, hE, hk, fun y hy => ⟨n, by omega, by rw [new]; rw [ex] at hy; exact Option.some.inj hy⟩⟩
            · rw [rne b q] at e
              obtain ⟨g1, ⟨j, hj, g2⟩, g3, g4, g5⟩ := w4 b r1 hb e
              refine ⟨g1, ⟨j, by omega, by rw [old j hj]; exact g2⟩, g3, g4, fun y hy => ?_⟩
              obtain ⟨j2, hj2, g6⟩ := g5 y hy
              exact ⟨j2, by omega, by rw [old j2 hj2]; exact g6⟩
          · obtain ⟨j, hj, e1⟩ := w5 r1 l1 l2 e
            exact ⟨j, by omega, by rw [old j hj]; exact e1⟩
        obtain ⟨t1, t2, t3, t4, t5, t6⟩ := bfI_T hnb hns hM row r (o + 1) (va_up rf o (some row)) (va_up wt n x) (n + 1) (by omega) hW2 ⟨i, by omega, by rw [old i hin]; exact hir⟩
        refine ⟨t1, fun b hb => ?_, by omega, fun j hj => by rw [t4 j (by omega), old j hj], fun z b l1 l2 hE2 => ?_, t6⟩
        · have q : b ≠ o := fun e => hb (by rw [e]; exact hrf)
          rw [t2 b (by rw [rne b q]; exact hb), rne b q]
        · rcases Nat.lt_or_ge o b with w | w
          · exact t5 z b w l2 hE2
          · obtain rfl : b = o := by omega
            have q : va_up rf b (some row) b = some row := if_pos rfl
            exact Or.inr (by rw [t2 b (by rw [q]; exact fun z => by cases z), q]; exact fun z => by cases z)
    · next h => exact skip (Or.inr (Or.inr h))
theorem bfO_T {so bo : Nat → Option Nat} {ag : Nat → Int32} {nb ns ff : Nat} (hnb : nb ≤ 20) (hns : ns ≤ 20) (hM : pM nb ns so bo) : ∀ (r i : Nat) (rf : Nat → Option Nat) (wt : Nat → Nat) (n : Nat), i + r = 20 → bW so bo ag nb ns ff rf wt n →
    (∀ j, j < i → j < n → ∀ b, b < ns → abit (ag (wt j)) b = true → pKept bo b ff = true ∨ ¬ rf b = none) →
    bW so bo ag nb ns ff (bfO ag bo ff ns r i rf wt n).2.1 (bfO ag bo ff ns r i rf wt n).2.2.1 (bfO ag bo ff ns r i rf wt n).2.2.2 ∧
    ((bfO ag bo ff ns r i rf wt n).1 = none → ∀ j, j < (bfO ag bo ff ns r i rf wt n).2.2.2 → ∀ b, b < ns → abit (ag ((bfO ag bo ff ns r i rf wt n).2.2.1 j)) b = true → pKept bo b ff = true ∨ ¬ (bfO ag bo ff ns r i rf wt n).2.1 b = none) ∧
    ∀ e, (bfO ag bo ff ns r i rf wt n).1 = some e → e < ns ∧ bo e = none ∧ ∃ j, j < (bfO ag bo ff ns r i rf wt n).2.2.2 ∧ (bfO ag bo ff ns r i rf wt n).2.1 e = some ((bfO ag bo ff ns r i rf wt n).2.2.1 j)
  | 0, i, rf, wt, n, hi, hW, hc => by
    have hn : n ≤ 20 := Nat.le_trans (inj_le hW.1 (fun j hj => (hW.2.1 j hj).2)) hnb
    exact ⟨hW, fun _ j hj => hc j (by have hj : j < n := hj; omega) hj, fun e z => by cases z⟩
  | r + 1, i, rf, wt, n, hi, hW, hc => by
    rw [bfO]
    split
    · next hin =>
      have hT := bfI_T hnb hns hM (wt i) ns 0 rf wt n (Nat.zero_add _) hW ⟨i, hin, rfl⟩
      generalize bfI ag bo ff (wt i) ns 0 rf wt n = z at hT ⊢
      obtain ⟨t1, t2, t3, t4, t5, t6⟩ := hT
      split
      · next hz =>
        refine bfO_T hnb hns hM r (i + 1) z.2.1 z.2.2.1 z.2.2.2 (by omega) t1 (fun j hj hjn b hb hE => ?_)
        rcases Nat.lt_or_ge j i with w | w
        · rw [t4 j (by omega)] at hE
          rcases hc j w (by omega) b hb hE with g | g
          · exact Or.inl g
          · exact Or.inr (by rw [t2 b g]; exact g)
        · obtain rfl : j = i := by omega
          rw [t4 j hin] at hE
          exact t5 hz b (Nat.zero_le _) hb hE
      · next hz => exact ⟨t1, fun w => absurd w hz, t6⟩
    · next hin => exact ⟨hW, fun _ j hj => hc j (by have hj : j < n := hj; omega) hj, fun e z => by cases z⟩
theorem bfI_m {ag : Nat → Int32} {bo : Nat → Option Nat} {ff row : Nat} : ∀ (r o : Nat) (rf : Nat → Option Nat) (wt : Nat → Nat) (n : Nat), (∀ b, b < 20 → ¬ rf b = none → ¬ bo b = none) → (bfI ag bo ff row r o rf wt n).1 = none → ∀ b, b < 20 → ¬ (bfI ag bo ff row r o rf wt n).2.1 b = none → ¬ bo b = none
  | 0, o, rf, wt, n, h => fun _ => h
  | r + 1, o, rf, wt, n, h => by
    rw [bfI]
    split
    · exact bfI_m r (o + 1) rf wt n h
    split
    · split
      · exact bfI_m r (o + 1) rf wt n h
      split
      · exact fun z => by cases z
      · next hb0 =>
        have h2 : ∀ b, b < 20 → ¬ va_up rf o (some row) b = none → ¬ bo b = none := fun b hb z => by
          by_cases e : b = o
          · rw [e]; exact hb0
          · rw [show va_up rf o (some row) b = rf b from if_neg e] at z
            exact h b hb z
        split
        · exact bfI_m r (o + 1) _ _ _ h2
        · exact bfI_m r (o + 1) _ _ _ h2
    · exact bfI_m r (o + 1) rf wt n h
theorem bfO_m {ag : Nat → Int32} {bo : Nat → Option Nat} {ff ns : Nat} : ∀ (r i : Nat) (rf : Nat → Option Nat) (wt : Nat → Nat) (n : Nat), (∀ b, b < 20 → ¬ rf b = none → ¬ bo b = none) → (bfO ag bo ff ns r i rf wt n).1 = none → ∀ b, b < 20 → ¬ (bfO ag bo ff ns r i rf wt n).2.1 b = none → ¬ bo b = none
  | 0, i, rf, wt, n, h => fun _ => h
  | r + 1, i, rf, wt, n, h => by
    rw [bfO]
    split
    · split
      · next hz => exact bfO_m r (i + 1) _ _ _ (bfI_m ns 0 rf wt n h hz)
      · next hz => exact fun z => absurd z hz
    · exact fun _ => h
/-- pairs turned over along a way -/
theorem jb_ok {nb ns n : Nat} {so0 rf : Nat → Option Nat} {wt : Nat → Nat} (hnb : nb ≤ 20) (hns : ns ≤ 20) (w1 : ∀ j k, j < n → k < n → wt j = wt k → j = k) (w2 : ∀ j, j < n → wt j < nb) (w3 : ∀ j, j < n → so0 (wt j) = none ∨ ∃ o j2, so0 (wt j) = some o ∧ j2 < j ∧ rf o = some (wt j2)) :
    ∀ (fu j o : Nat) (so bo : Nat → Option Nat), j < fu → j < n → o < ns → rf o = some (wt j) → (∀ i, i ≤ j → so (wt i) = so0 (wt i)) → pM nb ns so (va_up bo o none) →
    pM nb ns (jbF rf fu (some o) so bo).1 (jbF rf fu (some o) so bo).2 ∧ sz ns (jbF rf fu (some o) so bo).2 = sz ns (va_up bo o none) + 1 ∧ (∀ r, (∀ i, i ≤ j → r ≠ wt i) → (jbF rf fu (some o) so bo).1 r = so r) ∧ ∀ r b, (jbF rf fu (some o) so bo).1 r = some b → so r = some b ∨ rf b = some r
  | 0, j, o, so, bo, h, _, _, _, _, _ => absurd h (Nat.not_lt_zero _)
  | fu + 1, j, o, so, bo, hf, hj, ho, hr, hs, hM => by
    rw [jbF, if_neg (by simp), Option.getD_some, hr, Option.getD_some]
    have hrn := w2 j hj
    have hs1 := hs j (Nat.le_refl j)
    generalize er : wt j = r at *
    have sa : va_up so r (some o) r = some o := if_pos rfl
    have sn : ∀ q, q ≠ r → va_up so r (some o) q = so q := fun q hq => if_neg hq
    have ba : va_up bo o (some r) o = some r := if_pos rfl
    have bn : ∀ q, q ≠ o → va_up bo o (some r) q = bo q := fun q hq => if_neg hq
    have Ba : va_up bo o none o = none := if_pos rfl
    have Bn : ∀ q, q ≠ o → va_up bo o none q = bo q := fun q hq => if_neg hq
    have e1 : va_up (va_up bo o none) o (some r) = va_up bo o (some r) := by
      funext q
      by_cases e : q = o
      · rw [e, show va_up (va_up bo o none) o (some r) o = some r from if_pos rfl, ba]
      · rw [show va_up (va_up bo o none) o (some r) q = va_up bo o none q from if_neg e, Bn q e, bn q e]
    have c1 : sz ns (va_up bo o (some r)) = sz ns (va_up bo o none) + 1 := by
      have := cn_upd (fun y => y.isSome) (va_up bo o none) o (some r) ns ho
      rw [e1] at this
      have e2 : ((fun y : Option Nat => y.isSome) (va_up bo o none o)).toNat = 0 := by rw [Ba]; rfl
      rw [e2] at this
      exact this
    cases hso : so r with
    | none =>
      have ej : jbF rf fu none (va_up so r (some o)) (va_up bo o (some r)) = (va_up so r (some o), va_up bo o (some r)) := by
        cases fu with
        | zero => rfl
        | succ k => rw [jbF, if_pos rfl]
      rw [ej]
      refine ⟨⟨fun q b hq e => ?_, fun q b hq e => ?_⟩, c1, fun q hq => sn q (by rw [← er]; exact hq j (Nat.le_refl j)), fun q b e => ?_⟩
      · have e : va_up bo o (some r) q = some b := e
        by_cases z : q = o
        · rw [z, ba] at e
          cases e
          exact ⟨hrn, by omega, by rw [z]; exact sa⟩
        · rw [bn q z, ← Bn q z] at e
          obtain ⟨g1, g2, g3⟩ := hM.1 q b hq e
          exact ⟨g1, g2, (sn b (fun z2 => by rw [z2, hso] at g3; cases g3)).trans g3⟩
      · have e : va_up so r (some o) q = some b := e
        by_cases z : q = r
        · rw [z, sa] at e
          cases e
          exact ⟨by omega, ho, by rw [z]; exact ba⟩
        · rw [sn q z] at e
          obtain ⟨g1, g2, g3⟩ := hM.2 q b hq e
          have z2 : b ≠ o := fun z2 => by rw [z2, Ba] at g3; cases g3
          rw [Bn b z2] at g3
          exact ⟨g1, g2, (bn b z2).trans g3⟩
      · have e : va_up so r (some o) q = some b := e
        by_cases z : q = r
        · rw [z, sa] at e
          cases e
          exact Or.inr (by rw [z]; exact hr)
        · rw [sn q z] at e
          exact Or.inl e
    | some o2 =>
      obtain ⟨g1, g2, g3⟩ := hM.2 r o2 (by omega) hso
      have z2 : o2 ≠ o := fun z2 => by rw [z2, Ba] at g3; cases g3
      have g4 : bo o2 = some r := by rw [← Bn o2 z2]; exact g3
      obtain ⟨j2, hj2, hr2⟩ : ∃ j2, j2 < j ∧ rf o2 = some (wt j2) := by
        rcases w3 j hj with w | ⟨o9, j9, e8, e9, e10⟩
        · rw [er, ← hs1, hso] at w; cases w
        · rw [er, ← hs1, hso] at e8
          cases e8
          exact ⟨j9, e9, e10⟩
      have sn2 : ∀ i, i < j → wt i ≠ r := fun i hi e => by
        rw [← er] at e
        have := w1 i j (by omega) hj e
        omega
      have Ca : va_up (va_up bo o (some r)) o2 none o2 = none := if_pos rfl
      have Cn : ∀ q, q ≠ o2 → va_up (va_up bo o (some r)) o2 none q = va_up bo o (some r) q := fun q hq => if_neg hq
      have hM2 : pM nb ns (va_up so r (some o)) (va_up (va_up bo o (some r)) o2 none) := by
        refine ⟨fun q b hq e => ?_, fun q b hq e => ?_⟩
        · by_cases z : q = o2
          · rw [z, Ca] at e; cases e
          · rw [Cn q z] at e
            by_cases z3 : q = o
            · rw [z3, ba] at e
              cases e
              exact ⟨hrn, by omega, by rw [z3]; exact sa⟩
            · rw [bn q z3, ← Bn q z3] at e
              obtain ⟨k1, k2, k3⟩ := hM.1 q b hq e
              refine ⟨k1, k2, (sn b (fun z4 => ?_)).trans k3⟩
              rw [z4, hso] at k3
              exact z (Option.some.inj k3).symm
        · by_cases z : q = r
          · rw [z, sa] at e
            cases e
            exact ⟨by omega, ho, by rw [z]; exact (Cn o (fun w => z2 w.symm)).trans ba⟩
          · rw [sn q z] at e
            obtain ⟨k1, k2, k3⟩ := hM.2 q b hq e
            have z3 : b ≠ o := fun z3 => by rw [z3, Ba] at k3; cases k3
            have z4 : b ≠ o2 := fun z4 => by rw [z4, g3] at k3; exact z (Option.some.inj k3).symm
            rw [Bn b z3] at k3
            exact ⟨k1, k2, (Cn b z4).trans ((bn b z3).trans k3)⟩
      have c2 : sz ns (va_up (va_up bo o (some r)) o2 none) = sz ns (va_up bo o none) := by
        have := cn_upd (fun y => y.isSome) (va_up bo o (some r)) o2 none ns g2
        have e2 : ((fun y : Option Nat => y.isSome) (va_up bo o (some r) o2)).toNat = 1 := by rw [bn o2 z2, g4]; rfl
        rw [e2] at this
        have this : sz ns (va_up (va_up bo o (some r)) o2 none) + 1 = sz ns (va_up bo o (some r)) + 0 := this
        omega
      obtain ⟨k1, k2, k3, k4⟩ := jb_ok hnb hns w1 w2 w3 fu j2 o2 (va_up so r (some o)) (va_up bo o (some r)) (by omega) (by omega) g2 hr2 (fun i hi => (sn _ (sn2 i (by omega))).trans (hs i (by omega))) hM2
      refine ⟨k1, by rw [k2, c2], fun q hq => (k3 q (fun i hi => hq i (by omega))).trans (sn q (by rw [← er]; exact hq j (Nat.le_refl j))), fun q b e => ?_⟩
      rcases k4 q b e with w | w
      · by_cases z : q = r
        · rw [z, sa] at w
          cases w
          exact Or.inr (by rw [z]; exact hr)
        · rw [sn q z] at w
          exact Or.inl w
      · exact Or.inr w
/-- edges: pairs that agree -/
def pE (ag : Nat → Int32) (a b : Nat) : Bool := abit (ag a) b
def pEV (ag : Nat → Int32) (so : Nat → Option Nat) : Prop := ∀ r b, r < 20 → so r = some b → pE ag r b = true
/-- the pairs of rows from ff on -/
def pRf (bo : Nat → Option Nat) (ff : Nat) : Nat → Option Nat := fun b => if pKept bo b ff = true then none else bo b
theorem pKept_iff {bo : Nat → Option Nat} {b ff : Nat} : pKept bo b ff = true ↔ ∃ x, bo b = some x ∧ x < ff := by
  unfold pKept
  cases h : bo b with
  | none => exact ⟨fun z => ft z, fun ⟨x, z, _⟩ => by cases z⟩
  | some y => exact ⟨fun z => ⟨y, rfl, of_decide_eq_true z⟩, fun ⟨x, z, q⟩ => by cases z; exact decide_eq_true q⟩
theorem pRf_s {bo : Nat → Option Nat} {b ff x : Nat} : pRf bo ff b = some x ↔ bo b = some x ∧ ff ≤ x := by
  unfold pRf
  by_cases h : pKept bo b ff = true
  · rw [if_pos h]
    obtain ⟨y, e, l⟩ := pKept_iff.mp h
    exact ⟨fun z => (by cases z), fun ⟨z, l2⟩ => by rw [e] at z; cases z; omega⟩
  · rw [if_neg h]
    refine ⟨fun z => ⟨z, ?_⟩, fun z => z.1⟩
    rcases Nat.lt_or_ge x ff with w | w
    · exact absurd (pKept_iff.mpr ⟨x, z, w⟩) h
    · exact w
theorem pRf_v {ag : Nat → Int32} {nb ns ff : Nat} {so bo : Nat → Option Nat} (hns : ns ≤ 20) (hnb : nb ≤ 20) (hM : pM nb ns so bo) (hE : pEV ag so) : vM (pE ag) ff nb ns (fun b => pKept bo b ff) (pRf bo ff) := by
  refine ⟨fun b x hb e => ?_, fun b c x hb hc e1 e2 => ?_⟩
  · obtain ⟨e1, e2⟩ := pRf_s.mp e
    obtain ⟨g1, g2, g3⟩ := hM.1 b x (by omega) e1
    refine ⟨e2, g1, hE x b (by omega) g3, ?_⟩
    show pKept bo b ff = false
    cases h : pKept bo b ff with
    | false => rfl
    | true =>
      obtain ⟨y, k1, k2⟩ := pKept_iff.mp h
      rw [e1] at k1
      cases k1
      omega
  · obtain ⟨e1, _⟩ := pRf_s.mp e1
    obtain ⟨e2, _⟩ := pRf_s.mp e2
    have g1 := (hM.1 b x (by omega) e1).2.2
    have g2 := (hM.1 c x (by omega) e2).2.2
    rw [g1] at g2
    exact Option.some.inj g2
theorem pm_none {ag : Nat → Int32} {nb ns ff : Nat} {so bo rf : Nat → Option Nat} {wt : Nat → Nat} (hns : ns ≤ 20) (hnb : nb ≤ 20) (hff : ff ≤ nb) (hM : pM nb ns so bo) (hE : pEV ag so) (hz : (pmS so bo ag nb ns ff rf wt).1 = none) : Mx (pE ag) ff nb ns (fun b => pKept bo b ff) (sz ns (pRf bo ff)) := by
  have h0 := wtF_b so ff nb (nb - ff) ff wt 0 (by omega) ⟨fun j k hj => absurd hj (Nat.not_lt_zero _), fun j hj => absurd hj (Nat.not_lt_zero _), fun r l1 l2 => by omega⟩ (Nat.le_refl _)
  have hT := bfO_T (ag := ag) (ff := ff) hnb hns hM 20 0 (fun j => if j < 20 then none else rf j) (wtF so (nb - ff) ff wt 0).1 (wtF so (nb - ff) ff wt 0).2 rfl ⟨h0.1, fun j hj => ⟨(h0.2.1 j hj).1, (h0.2.1 j hj).2.1⟩, fun j hj => Or.inl (h0.2.1 j hj).2.2, fun b r hb e => (by have e : (if b < 20 then none else rf b) = some r := e; rw [if_pos hb] at e; cases e), h0.2.2⟩ (fun j hj => absurd hj (Nat.not_lt_zero _))
  have hm : (pmS so bo ag nb ns ff rf wt).1 = none → ∀ b, b < 20 → ¬ (pmS so bo ag nb ns ff rf wt).2.1 b = none → ¬ bo b = none := bfO_m 20 0 _ _ _ (fun b hb z => absurd (if_pos hb) z)
  change bW so bo ag nb ns ff (pmS so bo ag nb ns ff rf wt).2.1 (pmS so bo ag nb ns ff rf wt).2.2.1 (pmS so bo ag nb ns ff rf wt).2.2.2 ∧ ((pmS so bo ag nb ns ff rf wt).1 = none → ∀ j, j < (pmS so bo ag nb ns ff rf wt).2.2.2 → ∀ b, b < ns → abit (ag ((pmS so bo ag nb ns ff rf wt).2.2.1 j)) b = true → pKept bo b ff = true ∨ ¬ (pmS so bo ag nb ns ff rf wt).2.1 b = none) ∧ _ at hT
  generalize pmS so bo ag nb ns ff rf wt = z at hz hT hm
  obtain ⟨⟨w1, w2, w3, w4, w5⟩, t2, -⟩ := hT
  have hv := pRf_v (ff := ff) hns hnb hM hE
  refine ⟨⟨_, hv, rfl⟩, fun g hg => mx_cert (fun x => ∃ j, j < z.2.2.2 ∧ z.2.2.1 j = x) (fun b => (z.2.1 b).isSome) (fun b hb hd => ?_) (fun x b hx l1 l2 hb hE1 ht => ?_) (fun x l1 l2 => ?_) hg⟩
  · obtain ⟨r, er⟩ := Option.isSome_iff_exists.mp hd
    obtain ⟨g1, g2, g3, g4, g5⟩ := w4 b r (by omega) er
    cases hb0 : bo b with
    | none => exact absurd hb0 (hm hz b (by omega) (by rw [er]; exact fun z => by cases z))
    | some x =>
      have xff : ff ≤ x := by
        rcases Nat.lt_or_ge x ff with q | q
        · rw [pKept_iff.mpr ⟨x, hb0, q⟩] at g4
          exact tf g4
        · exact q
      exact ⟨x, pRf_s.mpr ⟨hb0, xff⟩, g5 x hb0⟩
  · obtain ⟨j, hj, e⟩ := hx
    rcases t2 hz j hj b hb (by rw [e]; exact hE1) with w | w
    · rw [w] at ht; exact tf ht
    · obtain ⟨r, er⟩ := Option.ne_none_iff_exists'.mp w
      show (z.2.1 b).isSome = true
      rw [er]; rfl
  · cases hs : so x with
    | none => exact Or.inl (w5 x l1 l2 hs)
    | some b =>
      have := hM.2 x b (by omega) hs
      exact Or.inr ⟨b, this.2.1, pRf_s.mpr ⟨this.2.2, l1⟩⟩
theorem bo_ext {nb ns : Nat} {so bo so2 bo2 : Nat → Option Nat} (hM : pM nb ns so bo) (hM2 : pM nb ns so2 bo2) (hnb : nb ≤ 20) {ff : Nat} (h : ∀ r, r < ff → so2 r = so r) (b : Nat) (hb : b < 20) : pKept bo2 b ff = pKept bo b ff := by
  have e : ∀ {so bo so2 bo2 : Nat → Option Nat}, pM nb ns so bo → pM nb ns so2 bo2 → (∀ r, r < ff → so2 r = so r) → pKept bo2 b ff = true → pKept bo b ff = true := fun hM hM2 h z => by
    obtain ⟨x, e1, e2⟩ := pKept_iff.mp z
    have g := hM2.1 b x hb e1
    have g2 := g.2.2
    rw [h x e2] at g2
    exact pKept_iff.mpr ⟨x, (hM.2 x b (by omega) g2).2.2, e2⟩
  cases h1 : pKept bo2 b ff with
  | true => exact (e hM hM2 h h1).symm
  | false =>
    cases h2 : pKept bo b ff with
    | false => rfl
    | true => rw [e hM2 hM (fun r hr => (h r hr).symm) h2] at h1; exact h1.symm
theorem sz_Rf (ns : Nat) (bo : Nat → Option Nat) (ff : Nat) : sz ns bo = fa_cnt (fun b => pKept bo b ff) ns + sz ns (pRf bo ff) := by
  unfold sz
  rw [cn_split (fun b => (bo b).isSome) (fun b => pKept bo b ff) ns]
  congr 1
  · refine fa_cnt_cong (fun b _ => ?_)
    cases h : pKept bo b ff with
    | false => simp
    | true =>
      obtain ⟨x, e, _⟩ := pKept_iff.mp h
      rw [e]; rfl
  · refine fa_cnt_cong (fun b _ => ?_)
    show ((bo b).isSome && !pKept bo b ff) = (pRf bo ff b).isSome
    unfold pRf
    cases h : pKept bo b ff with
    | false => simp
    | true => simp
theorem pm_some {ag : Nat → Int32} {nb ns ff e : Nat} {so bo rf : Nat → Option Nat} {wt : Nat → Nat} (hns : ns ≤ 20) (hnb : nb ≤ 20) (hff : ff ≤ nb) (hM : pM nb ns so bo) (hE : pEV ag so) (hz : (pmS so bo ag nb ns ff rf wt).1 = some e) :
    pM nb ns (pmR so bo (pmS so bo ag nb ns ff rf wt)).1 (pmR so bo (pmS so bo ag nb ns ff rf wt)).2 ∧ pEV ag (pmR so bo (pmS so bo ag nb ns ff rf wt)).1 ∧ (∀ r, r < ff → (pmR so bo (pmS so bo ag nb ns ff rf wt)).1 r = so r) ∧ sz ns (pmR so bo (pmS so bo ag nb ns ff rf wt)).2 = sz ns bo + 1 := by
  have h0 := wtF_b so ff nb (nb - ff) ff wt 0 (by omega) ⟨fun j k hj => absurd hj (Nat.not_lt_zero _), fun j hj => absurd hj (Nat.not_lt_zero _), fun r l1 l2 => by omega⟩ (Nat.le_refl _)
  have hT := bfO_T (ag := ag) (ff := ff) hnb hns hM 20 0 (fun j => if j < 20 then none else rf j) (wtF so (nb - ff) ff wt 0).1 (wtF so (nb - ff) ff wt 0).2 rfl ⟨h0.1, fun j hj => ⟨(h0.2.1 j hj).1, (h0.2.1 j hj).2.1⟩, fun j hj => Or.inl (h0.2.1 j hj).2.2, fun b r hb e => (by have e : (if b < 20 then none else rf b) = some r := e; rw [if_pos hb] at e; cases e), h0.2.2⟩ (fun j hj => absurd hj (Nat.not_lt_zero _))
  change bW so bo ag nb ns ff (pmS so bo ag nb ns ff rf wt).2.1 (pmS so bo ag nb ns ff rf wt).2.2.1 (pmS so bo ag nb ns ff rf wt).2.2.2 ∧ _ ∧ ∀ e, (pmS so bo ag nb ns ff rf wt).1 = some e → e < ns ∧ bo e = none ∧ ∃ j, j < (pmS so bo ag nb ns ff rf wt).2.2.2 ∧ (pmS so bo ag nb ns ff rf wt).2.1 e = some ((pmS so bo ag nb ns ff rf wt).2.2.1 j) at hT
  generalize pmS so bo ag nb ns ff rf wt = z at hz hT ⊢
  obtain ⟨⟨w1, w2, w3, w4, w5⟩, -, t3⟩ := hT
  obtain ⟨g1, g2, j, hj, g3⟩ := t3 e hz
  have hn := inj_le w1 (fun j hj => (w2 j hj).2)
  have eb : va_up bo e none = bo := by
    funext q
    by_cases h : q = e
    · rw [h, g2]; exact if_pos rfl
    · exact if_neg h
  have hb := jb_ok (so0 := so) (rf := z.2.1) hnb hns w1 (fun j hj => (w2 j hj).2) w3 20 j e so bo (by omega) hj g1 g3 (fun _ _ => rfl) (by rw [eb]; exact hM)
  rw [eb] at hb
  have er : pmR so bo z = jbF z.2.1 20 (some e) so bo := by
    unfold pmR
    rw [hz, if_neg (by simp)]
  rw [er]
  obtain ⟨k1, k2, k3, k4⟩ := hb
  refine ⟨k1, fun r b hr hs => ?_, fun r hr => k3 r (fun i hi z9 => ?_), k2⟩
  · rcases k4 r b hs with w | w
    · exact hE r b hr w
    · have := (k1.2 r b hr hs).2.1
      exact (w4 b r (by omega) w).2.2.1
  · have := (w2 i (by omega)).1
    omega
