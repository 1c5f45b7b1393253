/-! ===== a call of the house and the same of the reference ===== -/
theorem nar8 (x : Int32) : vp_nar .byte x.toInt8.toInt32 = x.toInt8.toInt32 := by
  show x.toInt8.toInt32.toInt8.toInt32 = _
  exact fb_byte_twice x
def nrw (f : Nat → Int32) (n : Nat) : Prop := ∀ j, j < n → f j = (f j).toInt8.toInt32
theorem mPu_nr (v : Int32) : ∀ (k : Nat) (f : Nat → Int32) (n : Nat), nrw f n → nrw (mPu v k f n).1 (mPu v k f n).2
  | 0, f, n, h => h
  | k + 1, f, n, h => by
    rw [mPu]
    split
    · exact mPu_nr v k f n h
    · refine mPu_nr v k _ _ (fun j hj => ?_)
      unfold upd
      by_cases e : j = n
      · rw [if_pos e, nar8, fb_byte_twice]
      · rw [if_neg e]; exact h j (by omega)
theorem fd5_nr {f : Nat → Int32} {n : Nat} {a b c9 d e9 : Int32} {z : (Nat → Int32) × Nat} (h : nrw f n) (hz : mFd5 f n a b c9 d e9 z) : nrw z.1 z.2 := by
  obtain ⟨u1, u2, u3, u4, rfl, rfl, rfl, rfl, rfl⟩ := hz
  exact mPu_nr _ _ _ _ (mPu_nr _ _ _ _ (mPu_nr _ _ _ _ (mPu_nr _ _ _ _ (mPu_nr _ _ _ _ h))))
theorem isl_in {I : Nat → Int32} {ng : Nat} (e : I 27 = nI ng) (hng : ng ≤ 100) (x : Int32) : mIsLog (upd I 0 0) x = mIn x 0 (nI ng - 1) := by
  have h4 : (nI ng - 1).toInt = (ng : Int) - 1 := by
    rcases Nat.eq_zero_or_pos ng with rfl | z
    · rfl
    · rw [show (1 : Int32) = nI 1 from rfl, pk_sub z, nI_toInt (by omega)]; omega
  unfold mIsLog mIn
  rw [show upd I 0 0 27 = I 27 from rfl, e]
  split
  · rfl
  · have : nI ng ≤ x ↔ nI ng - 1 < x := by rw [fa_le, fa_lt, h4, nI_toInt (by omega)]; omega
    by_cases c : nI ng ≤ x
    · rw [if_pos c, if_pos (this.mp c)]
    · rw [if_neg c, if_neg (fun z => c (this.mpr z))]
theorem mIn_z {v a b : Int32} (h : ¬ mIn v a b = 0) : a.toInt ≤ v.toInt ∧ v.toInt ≤ b.toInt := by
  have h1 := Decidable.not_not.mp (fun z => h ((mIn_iff v a b).mpr z))
  exact ⟨(fa_le _ _).mp h1.1, (fa_le _ _).mp h1.2⟩
theorem mIn_n {v a b : Int32} {n : Nat} (h : ¬ mIn v a b = 0) (ha : 0 ≤ a.toInt) (hb : b.toInt = (n : Int)) : ∃ x, x ≤ n ∧ v = nI x := by
  have h1 := mIn_z h
  obtain ⟨j, hj, e⟩ := nI_of (x := v) (fun z => by have := (fa_lt _ _).mp z; rw [show (0 : Int32).toInt = 0 from rfl] at this; omega)
  refine ⟨j, ?_, e⟩
  rw [e, nI_toInt hj] at h1
  omega
theorem cpF_lo {f g : Nat → Int32} {b : Nat} : ∀ {n k : Nat}, k < b → cpF f g b n k = g k
  | 0, _, _ => rfl
  | n + 1, k, h => by rw [cpF, pk_un (by omega)]; exact cpF_lo h
theorem cpF_in {f g : Nat → Int32} {b : Nat} : ∀ {n j : Nat}, j < n → cpF f g b n (b + j) = vp_nar .byte (f j)
  | 0, _, h => absurd h (Nat.not_lt_zero _)
  | n + 1, j, h => by
    rw [cpF]
    by_cases e : j = n
    · rw [e, pk_us]
    · rw [pk_un (by omega)]; exact cpF_in (by omega)
theorem ite01 (c : Prop) [Decidable c] : (if c then (0 : Int32) else 1) = 0 ∨ (if c then (0 : Int32) else 1) = 1 := by
  by_cases h : c
  · exact Or.inl (if_pos h)
  · exact Or.inr (if_neg h)
theorem itp {c : Prop} [Decidable c] {a b : Int32} {u : Nat → Int32} {z : Int32 × (Nat → Int32)} (h : z = (b, u)) : (if c then (a, u) else z) = ((if c then a else b), u) := by
  rw [h]
  by_cases k : c
  · rw [if_pos k, if_pos k]
  · rw [if_neg k, if_neg k]
theorem rT_tx {tn : Nat} {tf f : Nat → Int32} {i : Int32} (h : rT tn tf i f) : txR f 0 tn tf := ⟨h.1, fun j hj => by rw [Nat.zero_add]; exact ⟨h.2.2.2 j hj, h.2.2.1 j hj⟩⟩
theorem la_feed {tn : Nat} {tf : Nat → Int32} {nl : Nat} {l0 : Nat → Int32} {lf : Nat → Int32} {lt : Nat → Int32} {tz : Nat → Nat} {tv : Nat → Nat → Int32} {ne : Nat} {en : Nat → Int32} {ef : Nat → Int32} {et : Nat → Int32} {ep : Nat → Int32} {ng : Nat} {D : Nat → Nat → Int32} {pr : Nat → Int32} {gn : Nat} {gc : Int32} {ld : Nat → Int32} {ll : Nat → Int32} {lc : Nat → Int32} {nw : Nat} {nb : Nat} {ns : Nat} {bd : Nat → Int32} {bl : Nat → Int32} {sd : Nat → Int32} {sl : Nat → Int32} {td : Int32} {tl : Int32} {fd : Int32} {st : Int32} {so : Nat → Option Nat} {ca : Int32} {cs : Int32} {cb : Int32} {cd : Int32} {I : Nat → Int32} {F : Nat → Nat → Int32} {L : Nat → Nat} {u w : (Nat → Int32) × Nat} {r1 r2 a b c9 d e9 : Int32} (h1 : (tn + mCt5 a b c9 d e9 ≤ 120 ∧ r1 = nI u.2 ∧ tFd5 tf tn a b c9 d e9 u) ∨ (¬ tn + mCt5 a b c9 d e9 ≤ 120 ∧ r1 = -1 ∧ u = (tf, tn))) (h2 : (tn + mCt5 a b c9 d e9 ≤ 120 ∧ r2 = nI w.2 ∧ mFd5 (F 1) tn a b c9 d e9 w) ∨ (¬ tn + mCt5 a b c9 d e9 ≤ 120 ∧ r2 = -1 ∧ w = (F 1, tn))) (hm : hmR tn tf nl l0 lf lt tz tv ne en ef et ep ng D pr gn gc ld ll lc nw nb ns bd bl sd sl td tl fd st so ca cs cb cd I F L) : (r1 = r2) ∧ hmR u.2 u.1 nl l0 lf lt tz tv ne en ef et ep ng D pr gn gc ld ll lc nw nb ns bd bl sd sl td tl fd st so ca cs cb cd (upd (upd I 23 (nI w.2)) 0 0) (va_up F 1 w.1) L := by
  obtain ⟨hT, hL, hE, hG, hP, hD, hN, hB, hC⟩ := hm
  rcases h1 with ⟨c, e1, z1⟩ | ⟨c, e1, z1⟩
  · rcases h2 with ⟨-, e2, z2⟩ | ⟨c2, -, -⟩
    · obtain ⟨q1, q2, q3⟩ := fd5_R hT.2.2.1 c z1 z2
      refine ⟨by rw [e1, e2, q1], ⟨by omega, by rw [q1]; rfl, q3, ?_⟩, hL, hE, hG, hP, hD, hN, hB, hC⟩
      have := fd5_nr hT.2.2.2 z2
      rw [q1]
      exact this
    · exact absurd c c2
  · rcases h2 with ⟨c2, -, -⟩ | ⟨-, e2, z2⟩
    · exact absurd c2 c
    · subst z1 z2
      exact ⟨by rw [e1, e2], ⟨hT.1, rfl, hT.2.2⟩, hL, hE, hG, hP, hD, hN, hB, hC⟩
def edN (tn : Nat) (x : Int32) : Nat := if mIn x 0 (nI tn) = 0 then tn else x.toNatClampNeg
theorem ed_c {tn : Nat} (x : Int32) (h : tn ≤ 120) : (if mIn x 0 (nI tn) = 0 then (nI tn) else x) = nI (edN tn x) := by
  unfold edN
  split
  · rfl
  · next c =>
    obtain ⟨k, hk, rfl⟩ := mIn_n c (Int.le_refl _) (nI_toInt (show tn < 2 ^ 31 by omega))
    rw [nI_clamp (by omega)]
theorem la_end {tn : Nat} {tf : Nat → Int32} {nl : Nat} {l0 : Nat → Int32} {lf : Nat → Int32} {lt : Nat → Int32} {tz : Nat → Nat} {tv : Nat → Nat → Int32} {ne : Nat} {en : Nat → Int32} {ef : Nat → Int32} {et : Nat → Int32} {ep : Nat → Int32} {ng : Nat} {D : Nat → Nat → Int32} {pr : Nat → Int32} {gn : Nat} {gc : Int32} {ld : Nat → Int32} {ll : Nat → Int32} {lc : Nat → Int32} {nw : Nat} {nb : Nat} {ns : Nat} {bd : Nat → Int32} {bl : Nat → Int32} {sd : Nat → Int32} {sl : Nat → Int32} {td : Int32} {tl : Int32} {fd : Int32} {st : Int32} {so : Nat → Option Nat} {ca : Int32} {cs : Int32} {cb : Int32} {cd : Int32} {I : Nat → Int32} {F : Nat → Nat → Int32} {L : Nat → Nat} (x : Int32) (hm : hmR tn tf nl l0 lf lt tz tv ne en ef et ep ng D pr gn gc ld ll lc nw nb ns bd bl sd sl td tl fd st so ca cs cb cd I F L) : ((if mIn x 0 (nI tn) = 0 then 0 else 1) = (mEnd I x).1) ∧ hmR (edN tn x) tf nl l0 lf lt tz tv ne en ef et ep ng D pr gn gc ld ll lc nw nb ns bd bl sd sl td tl fd st so ca cs cb cd ((mEnd I x).2) F L := by
  obtain ⟨hT, hL, hE, hG, hP, hD, hN, hB, hC⟩ := hm
  have e : mEnd I x = if mIn x 0 (nI tn) = 0 then (0, upd I 0 0) else (1, upd (upd I 0 0) 23 x) := by
    unfold mEnd mIn
    rw [hT.2.1]
    by_cases c : x < 0
    · rw [if_pos c, if_pos c, if_pos rfl]
    · rw [if_neg c, if_neg c]
      by_cases c2 : nI tn < x
      · rw [if_pos c2, if_neg (Int32.not_le.mpr c2), if_pos rfl]
      · rw [if_neg c2, if_pos (Int32.not_lt.mp c2), if_neg (by decide)]
  rw [e]
  by_cases c : mIn x 0 (nI tn) = 0
  · rw [if_pos c, if_pos c, show edN tn x = tn from if_pos c]
    exact ⟨rfl, hT, hL, hE, hG, hP, hD, hN, hB, hC⟩
  · obtain ⟨k, hk, rfl⟩ := mIn_n c (Int.le_refl _) (nI_toInt (show tn < 2 ^ 31 by have := hT.1; omega))
    have ht := hT.1
    rw [if_neg c, if_neg c, show edN tn (nI k) = k from (if_neg c).trans (nI_clamp (by omega))]
    exact ⟨rfl, ⟨by omega, rfl, fun j hj => hT.2.2.1 j (by omega), fun j hj => hT.2.2.2 j (by omega)⟩, hL, hE, hG, hP, hD, hN, hB, hC⟩
theorem la_fault {tn : Nat} {tf f : Nat → Int32} {i : Int32} (h : rT tn tf i f) : tFf tf tn tn 0 1 0 0 = mFau f tn := fault_eq (rT_tx h) _ _
theorem lw_ok {tn nl : Nat} {tf f : Nat → Int32} {i : Int32} (h : rT tn tf i f) (hnl : nl ≤ 20) (x : Int32) (hok : hLwok nl x tf tn = true) : mFau f tn = -1 ∧ ¬ mLater x = 0 ∧ ¬ nI nl = 20 ∧ nl < 20 := by
  unfold hLwok at hok
  rw [Bool.and_eq_true, Bool.and_eq_true, decide_eq_true_eq, decide_eq_true_eq, decide_eq_true_eq, la_fault h] at hok
  exact ⟨hok.2, hok.1.1, fun z => by have := nI_inj2 (b := 20) z (by omega) (by decide); omega, hok.1.2⟩
theorem la_lawN {tn : Nat} {tf : Nat → Int32} {nl : Nat} {l0 : Nat → Int32} {lf : Nat → Int32} {lt : Nat → Int32} {tz : Nat → Nat} {tv : Nat → Nat → Int32} {ne : Nat} {en : Nat → Int32} {ef : Nat → Int32} {et : Nat → Int32} {ep : Nat → Int32} {ng : Nat} {D : Nat → Nat → Int32} {pr : Nat → Int32} {gn : Nat} {gc : Int32} {ld : Nat → Int32} {ll : Nat → Int32} {lc : Nat → Int32} {nw : Nat} {nb : Nat} {ns : Nat} {bd : Nat → Int32} {bl : Nat → Int32} {sd : Nat → Int32} {sl : Nat → Int32} {td : Int32} {tl : Int32} {fd : Int32} {st : Int32} {so : Nat → Option Nat} {ca : Int32} {cs : Int32} {cb : Int32} {cd : Int32} {I : Nat → Int32} {F : Nat → Nat → Int32} {L : Nat → Nat} (x : Int32) (hok : hLwok nl x tf tn = false) (hm : hmR tn tf nl l0 lf lt tz tv ne en ef et ep ng D pr gn gc ld ll lc nw nb ns bd bl sd sl td tl fd st so ca cs cb cd I F L) : (-1 = (mLaw I F tn nl x).1) ∧ hmR tn tf nl l0 lf lt tz tv ne en ef et ep ng D pr gn gc ld ll lc nw nb ns bd bl sd sl td tl fd st so ca cs cb cd ((mLaw I F tn nl x).2.1) ((mLaw I F tn nl x).2.2) L := by
  obtain ⟨hT, hL, hE, hG, hP, hD, hN, hB, hC⟩ := hm
  have e : mLaw I F tn nl x = (-1, upd I 0 0, F) := by
    unfold mLaw
    by_cases c1 : mFau (F 1) tn = -1
    · rw [if_pos c1]
      by_cases c2 : mLater x = 0
      · rw [if_pos c2]
      · rw [if_neg c2]
        by_cases c3 : nI nl = 20
        · rw [if_pos c3]
        · refine absurd hok ?_
          have h20 := hL.1
          have : nl < 20 := Nat.lt_of_le_of_ne h20 (fun z => c3 (by rw [z]; rfl))
          unfold hLwok
          rw [la_fault hT, decide_eq_true c1, decide_eq_true this, decide_eq_true (show ¬ mIn x 0 500 = 0 from c2)]
          decide
    · rw [if_neg c1]
  rw [e]
  exact ⟨rfl, hT, hL, hE, hG, hP, hD, hN, hB, hC⟩
theorem la_law {tn : Nat} {tf : Nat → Int32} {nl : Nat} {l0 : Nat → Int32} {lf : Nat → Int32} {lt : Nat → Int32} {tz : Nat → Nat} {tv : Nat → Nat → Int32} {ne : Nat} {en : Nat → Int32} {ef : Nat → Int32} {et : Nat → Int32} {ep : Nat → Int32} {ng : Nat} {D : Nat → Nat → Int32} {pr : Nat → Int32} {gn : Nat} {gc : Int32} {ld : Nat → Int32} {ll : Nat → Int32} {lc : Nat → Int32} {nw : Nat} {nb : Nat} {ns : Nat} {bd : Nat → Int32} {bl : Nat → Int32} {sd : Nat → Int32} {sl : Nat → Int32} {td : Int32} {tl : Int32} {fd : Int32} {st : Int32} {so : Nat → Option Nat} {ca : Int32} {cs : Int32} {cb : Int32} {cd : Int32} {I : Nat → Int32} {F : Nat → Nat → Int32} {L : Nat → Nat} (x : Int32) (g : Nat → Int32) (hok : hLwok nl x tf tn = true) (hg : ∀ j, j < (tkF tf tn 0 0 0 (fun _ => 0)).2 → g j = (tkF tf tn 0 0 0 (fun _ => 0)).1 j) (hm : hmR tn tf nl l0 lf lt tz tv ne en ef et ep ng D pr gn gc ld ll lc nw nb ns bd bl sd sl td tl fd st so ca cs cb cd I F L) : (nI nl = (mLaw I F tn nl x).1) ∧ hmR 0 tf (nl + 1) (upd l0 nl 0) (upd lf nl x) (upd lt nl (nI nw)) (va_up tz nl (tkF tf tn 0 0 0 (fun _ => 0)).2) (va_up tv nl g) ne en ef et ep ng D pr gn gc ld ll lc nw nb ns bd bl sd sl td tl fd st so ca cs cb cd ((mLaw I F tn nl x).2.1) ((mLaw I F tn nl x).2.2) (va_up L nl tn) := by
  obtain ⟨hT, hL, hE, hG, hP, hD, hN, hB, hC⟩ := hm
  obtain ⟨k1, k2, k3, k4⟩ := lw_ok hT hL.1 x hok
  have e : mLaw I F tn nl x = (nI nl, upd (upd (upd I 0 0) 25 (nI (nl + 1))) 23 0, (va_up (va_up (va_up (va_up F 2 (cpF (F 1) (F 2) (120 * nl) tn)) 3 (upd (F 3) nl (nI tn))) 4 (upd (F 4) nl x)) 5 (upd (F 5) nl (I 24)))) := by
    unfold mLaw
    rw [if_pos k1, if_neg k2, if_neg k3]
  rw [e]
  have hlow : ∀ k, k < nl → ∀ j, j < 120 → cpF (F 1) (F 2) (120 * nl) tn (120 * k + j) = F 2 (120 * k + j) := fun k hk j hj => cpF_lo (by omega)
  have htx : txR (cpF (F 1) (F 2) (120 * nl) tn) (120 * nl) tn tf := ⟨hT.1, fun j hj => by
    rw [cpF_in hj, show vp_nar .byte (F 1 j) = F 1 j from (hT.2.2.2 j hj).symm]
    exact ⟨hT.2.2.2 j hj, hT.2.2.1 j hj⟩⟩
  refine ⟨rfl, ⟨Nat.zero_le _, rfl, fun j hj => absurd hj (Nat.not_lt_zero j), fun j hj => absurd hj (Nat.not_lt_zero j)⟩, ⟨k4, rfl, fun k hk => ?_, fun k hk => ?_⟩, hE, hG, hP, hD, hN, hB, hC⟩
  · show upd l0 nl 0 k = 0 ∧ upd lf nl x k = upd (F 4) nl x k ∧ upd lt nl (nI nw) k = upd (F 5) nl (I 24) k
    unfold upd
    by_cases c : k = nl
    · rw [if_pos c, if_pos c, if_pos c, if_pos c, if_pos c]; exact ⟨rfl, rfl, hN.2.symm⟩
    · rw [if_neg c, if_neg c, if_neg c, if_neg c, if_neg c]; exact hL.2.2.1 k (by omega)
  · show upd (F 3) nl (nI tn) k = nI (va_up L nl tn k) ∧ ∃ f, txR (cpF (F 1) (F 2) (120 * nl) tn) (120 * k) (va_up L nl tn k) f ∧ tFf f (va_up L nl tn k) (va_up L nl tn k) 0 1 0 0 = -1 ∧ va_up tz nl (tkF tf tn 0 0 0 (fun _ => 0)).2 k = (tkF f (va_up L nl tn k) 0 0 0 (fun _ => 0)).2 ∧ ∀ j, j < va_up tz nl (tkF tf tn 0 0 0 (fun _ => 0)).2 k → va_up tv nl g k j = (tkF f (va_up L nl tn k) 0 0 0 (fun _ => 0)).1 j
    by_cases c : k = nl
    · subst c
      rw [va_up_self, va_up_self, va_up_self, pk_us]
      exact ⟨rfl, tf, htx, by rw [la_fault hT]; exact k1, rfl, hg⟩
    · rw [va_up_ne _ _ c, va_up_ne _ _ c, va_up_ne _ _ c, pk_un c]
      obtain ⟨z1, f, z2, z3⟩ := hL.2.2.2 k (by omega)
      refine ⟨z1, f, ⟨z2.1, fun j hj => ?_⟩, z3⟩
      have := z2.1
      rw [hlow k (by omega) j (by omega)]
      exact z2.2 j hj
theorem la_force {tn : Nat} {tf : Nat → Int32} {nl : Nat} {l0 : Nat → Int32} {lf : Nat → Int32} {lt : Nat → Int32} {tz : Nat → Nat} {tv : Nat → Nat → Int32} {ne : Nat} {en : Nat → Int32} {ef : Nat → Int32} {et : Nat → Int32} {ep : Nat → Int32} {ng : Nat} {D : Nat → Nat → Int32} {pr : Nat → Int32} {gn : Nat} {gc : Int32} {ld : Nat → Int32} {ll : Nat → Int32} {lc : Nat → Int32} {nw : Nat} {nb : Nat} {ns : Nat} {bd : Nat → Int32} {bl : Nat → Int32} {sd : Nat → Int32} {sl : Nat → Int32} {td : Int32} {tl : Int32} {fd : Int32} {st : Int32} {so : Nat → Option Nat} {ca : Int32} {cs : Int32} {cb : Int32} {cd : Int32} {I : Nat → Int32} {F : Nat → Nat → Int32} {L : Nat → Nat} (dy q : Int32) (hm : hmR tn tf nl l0 lf lt tz tv ne en ef et ep ng D pr gn gc ld ll lc nw nb ns bd bl sd sl td tl fd st so ca cs cb cd I F L) : ((if mIn dy 0 500 = 0 then -1 else if mIn q 0 (nI nw) = 0 then -1 else rgF l0 lf lt 0 dy q nl 0 (-1)) = (mForce I F nl dy q).1) ∧ jm I (mForce I F nl dy q).2 := by
  obtain ⟨hT, hL, hE, hG, hP, hD, hN, hB, hC⟩ := hm
  have e : mForce I F nl dy q = ((if mIn dy 0 500 = 0 then -1 else if mIn q 0 (nI nw) = 0 then -1 else mFo (F 4) (F 5) dy q nl 0 (-1)), upd I 0 0) := by
    unfold mForce
    rw [show mLater dy = mIn dy 0 500 from rfl, show mKnown (upd I 0 0) q = mIn q 0 (I 24) from rfl, hN.2]
    split
    · rfl
    · split <;> rfl
  have hl := hL.1
  rw [e, rg_fo hL.2.2.1 dy q nl 0 (-1) (Nat.zero_add _) (by omega) (Or.inl rfl)]
  exact ⟨rfl, jm_0 I 0⟩
theorem la_most {tn : Nat} {tf : Nat → Int32} {nl : Nat} {l0 : Nat → Int32} {lf : Nat → Int32} {lt : Nat → Int32} {tz : Nat → Nat} {tv : Nat → Nat → Int32} {ne : Nat} {en : Nat → Int32} {ef : Nat → Int32} {et : Nat → Int32} {ep : Nat → Int32} {ng : Nat} {D : Nat → Nat → Int32} {pr : Nat → Int32} {gn : Nat} {gc : Int32} {ld : Nat → Int32} {ll : Nat → Int32} {lc : Nat → Int32} {nw : Nat} {nb : Nat} {ns : Nat} {bd : Nat → Int32} {bl : Nat → Int32} {sd : Nat → Int32} {sl : Nat → Int32} {td : Int32} {tl : Int32} {fd : Int32} {st : Int32} {so : Nat → Option Nat} {ca : Int32} {cs : Int32} {cb : Int32} {cd : Int32} {I : Nat → Int32} {F : Nat → Nat → Int32} {L : Nat → Nat} (d lq : Int32) (hm : hmR tn tf nl l0 lf lt tz tv ne en ef et ep ng D pr gn gc ld ll lc nw nb ns bd bl sd sl td tl fd st so ca cs cb cd I F L) : (if mIn d 0 1000 = 0 then -1 else if mIn lq 0 1000 = 0 then -1 else hMo (mLv F L) d lq nl 0 (-1) 0) = mMost F nl L d lq := by
  obtain ⟨hT, hL, hE, hG, hP, hD, hN, hB, hC⟩ := hm
  unfold mMost
  rw [mo_eq hL.1 (fun _ _ => rfl) nl 0 (-1) 0 (Nat.zero_add _) (Or.inl rfl)]
theorem la_error {tn : Nat} {tf : Nat → Int32} {nl : Nat} {l0 : Nat → Int32} {lf : Nat → Int32} {lt : Nat → Int32} {tz : Nat → Nat} {tv : Nat → Nat → Int32} {ne : Nat} {en : Nat → Int32} {ef : Nat → Int32} {et : Nat → Int32} {ep : Nat → Int32} {ng : Nat} {D : Nat → Nat → Int32} {pr : Nat → Int32} {gn : Nat} {gc : Int32} {ld : Nat → Int32} {ll : Nat → Int32} {lc : Nat → Int32} {nw : Nat} {nb : Nat} {ns : Nat} {bd : Nat → Int32} {bl : Nat → Int32} {sd : Nat → Int32} {sl : Nat → Int32} {td : Int32} {tl : Int32} {fd : Int32} {st : Int32} {so : Nat → Option Nat} {ca : Int32} {cs : Int32} {cb : Int32} {cd : Int32} {I : Nat → Int32} {F : Nat → Nat → Int32} {L : Nat → Nat} (a b c9 : Int32) (hm : hmR tn tf nl l0 lf lt tz tv ne en ef et ep ng D pr gn gc ld ll lc nw nb ns bd bl sd sl td tl fd st so ca cs cb cd I F L) : ((if hEok ne a b c9 = true then 1 else 0) = (mError I F a b c9).1) ∧ hmR tn tf nl l0 lf lt tz tv (if hEok ne a b c9 = true then ne + 1 else ne) (if hEok ne a b c9 = true then upd en ne a else en) (if hEok ne a b c9 = true then upd ef ne c9 else ef) (if hEok ne a b c9 = true then upd et ne (nI nw) else et) (if hEok ne a b c9 = true then upd ep ne b else ep) ng D pr gn gc ld ll lc nw nb ns bd bl sd sl td tl fd st so ca cs cb cd ((mError I F a b c9).2.1) ((mError I F a b c9).2.2) L := by
  obtain ⟨hT, hL, hE, hG, hP, hD, hN, hB, hC⟩ := hm
  have hne := hE.1
  by_cases ho : hEok ne a b c9 = true
  · have ho2 := ho
    unfold hEok at ho2
    rw [Bool.and_eq_true, Bool.and_eq_true, Bool.and_eq_true, decide_eq_true_eq, decide_eq_true_eq, decide_eq_true_eq, decide_eq_true_eq] at ho2
    obtain ⟨⟨⟨o1, o2⟩, o3⟩, o4⟩ := ho2
    have e : mError I F a b c9 = (1, (upd (upd I 0 0) 26 (nI (ne + 1))), (va_up (va_up (va_up (va_up F 6 (upd (F 6) ne a)) 7 (upd (F 7) ne b)) 8 (upd (F 8) ne c9)) 9 (upd (F 9) ne (nI nw)))) := by
      unfold mError
      rw [hE.2.1, hN.2, if_neg (fun z => by have := nI_inj2 (b := 60) z (by omega) (by decide); omega), if_neg o1, if_neg o2, if_neg (show ¬ mLater c9 = 0 from o3), nI_clamp (by omega), nI_1]
    rw [e, if_pos ho, if_pos ho, if_pos ho, if_pos ho, if_pos ho, if_pos ho]
    refine ⟨rfl, hT, hL, ⟨by omega, rfl, fun j hj => ?_, fun j hj => ?_⟩, hG, hP, hD, hN, hB, hC⟩
    · show upd en ne a j = upd (F 6) ne a j ∧ upd ef ne c9 j = upd (F 8) ne c9 j ∧ upd et ne (nI nw) j = upd (F 9) ne (nI nw) j ∧ upd ep ne b j = upd (F 7) ne b j ∧ 0 ≤ (upd (F 8) ne c9 j).toInt
      unfold upd
      by_cases c : j = ne
      · simp only [if_pos c]
        exact ⟨trivial, trivial, trivial, trivial, (mIn_z o3).1⟩
      · simp only [if_neg c]
        exact hE.2.2.1 j (by omega)
    · unfold upd
      by_cases c : j = ne
      · rw [if_pos c]; exact mIn_z o2
      · rw [if_neg c]; exact hE.2.2.2 j (by omega)
  · have e : mError I F a b c9 = (0, upd I 0 0, F) := by
      unfold mError
      by_cases c1 : I 26 = 60
      · rw [if_pos c1]
      rw [if_neg c1]
      by_cases c2 : mIn a 0 5 = 0
      · rw [if_pos c2]
      rw [if_neg c2]
      by_cases c3 : mIn b (-200) 200 = 0
      · rw [if_pos c3]
      rw [if_neg c3]
      by_cases c4 : mLater c9 = 0
      · rw [if_pos c4]
      refine absurd ?_ ho
      have : ne < 60 := Nat.lt_of_le_of_ne hne (fun z => c1 (by rw [hE.2.1, z]; rfl))
      unfold hEok
      rw [decide_eq_true c2, decide_eq_true c3, decide_eq_true (show ¬ mIn c9 0 500 = 0 from c4), decide_eq_true this]
      rfl
    rw [e, if_neg ho, if_neg ho, if_neg ho, if_neg ho, if_neg ho, if_neg ho]
    exact ⟨rfl, hT, hL, hE, hG, hP, hD, hN, hB, hC⟩
theorem la_logN {tn : Nat} {tf : Nat → Int32} {nl : Nat} {l0 : Nat → Int32} {lf : Nat → Int32} {lt : Nat → Int32} {tz : Nat → Nat} {tv : Nat → Nat → Int32} {ne : Nat} {en : Nat → Int32} {ef : Nat → Int32} {et : Nat → Int32} {ep : Nat → Int32} {ng : Nat} {D : Nat → Nat → Int32} {pr : Nat → Int32} {gn : Nat} {gc : Int32} {ld : Nat → Int32} {ll : Nat → Int32} {lc : Nat → Int32} {nw : Nat} {nb : Nat} {ns : Nat} {bd : Nat → Int32} {bl : Nat → Int32} {sd : Nat → Int32} {sl : Nat → Int32} {td : Int32} {tl : Int32} {fd : Int32} {st : Int32} {so : Nat → Option Nat} {ca : Int32} {cs : Int32} {cb : Int32} {cd : Int32} {I : Nat → Int32} {F : Nat → Nat → Int32} {L : Nat → Nat} (a b c9 d : Int32) (hok : hLok ng a b c9 d = false) (hm : hmR tn tf nl l0 lf lt tz tv ne en ef et ep ng D pr gn gc ld ll lc nw nb ns bd bl sd sl td tl fd st so ca cs cb cd I F L) : (-1 = (mLog I F a b c9 d).1) ∧ hmR tn tf nl l0 lf lt tz tv ne en ef et ep ng D pr gn gc ld ll lc nw nb ns bd bl sd sl td tl fd st so ca cs cb cd ((mLog I F a b c9 d).2.1) ((mLog I F a b c9 d).2.2) L := by
  obtain ⟨hT, hL, hE, hG, hP, hD, hN, hB, hC⟩ := hm
  have e : mLog I F a b c9 d = (-1, upd I 0 0, F) := by
    unfold mLog
    by_cases c1 : I 27 = 100
    · rw [if_pos c1]
    rw [if_neg c1]
    by_cases c2 : mIn a 0 5 = 0
    · rw [if_pos c2]
    rw [if_neg c2]
    by_cases c3 : mIn b 0 5 = 0
    · rw [if_pos c3]
    rw [if_neg c3]
    by_cases c4 : mIn c9 1 99 = 0
    · rw [if_pos c4]
    rw [if_neg c4]
    by_cases c5 : mIn d 1 60 = 0
    · rw [if_pos c5]
    refine absurd hok ?_
    have : ng < 100 := Nat.lt_of_le_of_ne hG.1 (fun z => c1 (by rw [hG.2.1, z]; rfl))
    unfold hLok
    rw [decide_eq_true c2, decide_eq_true c3, decide_eq_true c4, decide_eq_true c5, decide_eq_true this]
    decide
  rw [e]
  exact ⟨rfl, hT, hL, hE, hG, hP, hD, hN, hB, hC⟩
theorem la_log {tn : Nat} {tf : Nat → Int32} {nl : Nat} {l0 : Nat → Int32} {lf : Nat → Int32} {lt : Nat → Int32} {tz : Nat → Nat} {tv : Nat → Nat → Int32} {ne : Nat} {en : Nat → Int32} {ef : Nat → Int32} {et : Nat → Int32} {ep : Nat → Int32} {ng : Nat} {D : Nat → Nat → Int32} {pr : Nat → Int32} {gn : Nat} {gc : Int32} {ld : Nat → Int32} {ll : Nat → Int32} {lc : Nat → Int32} {nw : Nat} {nb : Nat} {ns : Nat} {bd : Nat → Int32} {bl : Nat → Int32} {sd : Nat → Int32} {sl : Nat → Int32} {td : Int32} {tl : Int32} {fd : Int32} {st : Int32} {so : Nat → Option Nat} {ca : Int32} {cs : Int32} {cb : Int32} {cd : Int32} {I : Nat → Int32} {F : Nat → Nat → Int32} {L : Nat → Nat} (a b c9 d : Int32) (hok : hLok ng a b c9 d = true) (hm : hmR tn tf nl l0 lf lt tz tv ne en ef et ep ng D pr gn gc ld ll lc nw nb ns bd bl sd sl td tl fd st so ca cs cb cd I F L) : (nI ng = (mLog I F a b c9 d).1) ∧ hmR tn tf nl l0 lf lt tz tv ne en ef et ep (ng + 1) (lgU D ng a b c9 d (nI nw)) pr gn gc ld ll lc nw nb ns bd bl sd sl td tl fd st so ca cs cb cd ((mLog I F a b c9 d).2.1) ((mLog I F a b c9 d).2.2) L := by
  obtain ⟨hT, hL, hE, hG, hP, hD, hN, hB, hC⟩ := hm
  unfold hLok at hok
  rw [Bool.and_eq_true, Bool.and_eq_true, Bool.and_eq_true, Bool.and_eq_true, decide_eq_true_eq, decide_eq_true_eq, decide_eq_true_eq, decide_eq_true_eq, decide_eq_true_eq] at hok
  obtain ⟨⟨⟨⟨o1, o2⟩, o3⟩, o4⟩, o5⟩ := hok
  have e : mLog I F a b c9 d = (nI ng, (upd (upd I 0 0) 27 (nI (ng + 1))), (va_up (va_up (va_up (va_up (va_up F 10 (upd (F 10) ng a)) 11 (upd (F 11) ng b)) 12 (upd (F 12) ng c9)) 13 (upd (F 13) ng d)) 14 (upd (F 14) ng (nI nw)))) := by
    unfold mLog
    rw [hG.2.1, hN.2, if_neg (fun z => by have := nI_inj2 (b := 100) z (by omega) (by decide); omega), if_neg o1, if_neg o2, if_neg o3, if_neg o4, nI_clamp (by omega), nI_1, nI_pred]
  rw [e]
  obtain ⟨x0, l0', e0⟩ := mIn_n (n := 5) o1 (Int.le_refl _) rfl
  obtain ⟨x2, l2', e2⟩ := mIn_n (n := 99) o3 (by decide) rfl
  obtain ⟨x3, l3', e3⟩ := mIn_n (n := 60) o4 (by decide) rfl
  have z0 := fun k h1 h2 => hG.2.2.2.2 k h1 h2
  refine ⟨rfl, hT, hL, hE, ⟨by omega, rfl, fun k hk => ?_, fun k hk => ?_, fun k h1 h2 => z0 k (by omega) h2⟩, hP, hD, hN, hB, hC⟩
  · show (upd (D 0) ng a k = upd (F 10) ng a k ∧ upd (D 1) ng b k = upd (F 11) ng b k ∧ upd (D 2) ng c9 k = upd (F 12) ng c9 k ∧ upd (D 3) ng d k = upd (F 13) ng d k ∧ upd (D 4) ng (nI nw) k = upd (F 14) ng (nI nw) k) ∧ upd (D 5) ng 0 k = F 15 k ∧ upd (D 6) ng 0 k = F 16 k ∧ upd (D 7) ng 0 k = F 18 k ∧ upd (D 8) ng 0 k = F 17 k
    unfold upd
    by_cases c : k = ng
    · simp only [if_pos c]
      obtain ⟨y1, y2, y3, y4⟩ := z0 k (by omega) (by omega)
      exact ⟨⟨trivial, trivial, trivial, trivial, trivial⟩, y1.symm, y2.symm, y4.symm, y3.symm⟩
    · simp only [if_neg c]
      exact hG.2.2.1 k (by omega)
  · show (∃ x, x < 6 ∧ upd (D 0) ng a k = nI x) ∧ (∃ x, x ≤ 99 ∧ upd (D 2) ng c9 k = nI x) ∧ (∃ x, x ≤ 60 ∧ upd (D 3) ng d k = nI x) ∧ (∃ x, x ≤ 99 ∧ upd (D 5) ng 0 k = nI x) ∧ (∃ x, x ≤ 90 ∧ upd (D 6) ng 0 k = nI x) ∧ ∃ x, x ≤ 99 ∧ upd (D 7) ng 0 k = nI x
    unfold upd
    by_cases c : k = ng
    · simp only [if_pos c]
      exact ⟨⟨x0, by omega, e0⟩, ⟨x2, l2', e2⟩, ⟨x3, l3', e3⟩, ⟨0, by omega, rfl⟩, ⟨0, by omega, rfl⟩, ⟨0, by omega, rfl⟩⟩
    · simp only [if_neg c]
      exact hG.2.2.2.1 k (by omega)
theorem la_defN {tn : Nat} {tf : Nat → Int32} {nl : Nat} {l0 : Nat → Int32} {lf : Nat → Int32} {lt : Nat → Int32} {tz : Nat → Nat} {tv : Nat → Nat → Int32} {ne : Nat} {en : Nat → Int32} {ef : Nat → Int32} {et : Nat → Int32} {ep : Nat → Int32} {ng : Nat} {D : Nat → Nat → Int32} {pr : Nat → Int32} {gn : Nat} {gc : Int32} {ld : Nat → Int32} {ll : Nat → Int32} {lc : Nat → Int32} {nw : Nat} {nb : Nat} {ns : Nat} {bd : Nat → Int32} {bl : Nat → Int32} {sd : Nat → Int32} {sl : Nat → Int32} {td : Int32} {tl : Int32} {fd : Int32} {st : Int32} {so : Nat → Option Nat} {ca : Int32} {cs : Int32} {cb : Int32} {cd : Int32} {I : Nat → Int32} {F : Nat → Nat → Int32} {L : Nat → Nat} (x y z9 : Int32) (hok : hDok ng x y z9 = false) (hm : hmR tn tf nl l0 lf lt tz tv ne en ef et ep ng D pr gn gc ld ll lc nw nb ns bd bl sd sl td tl fd st so ca cs cb cd I F L) : (0 = (mDefects I F x y z9).1) ∧ hmR tn tf nl l0 lf lt tz tv ne en ef et ep ng D pr gn gc ld ll lc nw nb ns bd bl sd sl td tl fd st so ca cs cb cd ((mDefects I F x y z9).2.1) ((mDefects I F x y z9).2.2) L := by
  obtain ⟨hT, hL, hE, hG, hP, hD, hN, hB, hC⟩ := hm
  have e : mDefects I F x y z9 = (0, upd I 0 0, F) := by
    unfold mDefects
    rw [isl_in hG.2.1 hG.1]
    by_cases c1 : mIn x 0 (nI ng - 1) = 0
    · rw [if_pos c1]
    rw [if_neg c1]
    by_cases c2 : mIn y 0 99 = 0
    · rw [if_pos c2]
    rw [if_neg c2]
    by_cases c3 : mIn z9 0 90 = 0
    · rw [if_pos c3]
    refine absurd hok ?_
    unfold hDok
    rw [decide_eq_true c1, decide_eq_true c2, decide_eq_true c3]
    decide
  rw [e]
  exact ⟨rfl, hT, hL, hE, hG, hP, hD, hN, hB, hC⟩
theorem la_def {tn : Nat} {tf : Nat → Int32} {nl : Nat} {l0 : Nat → Int32} {lf : Nat → Int32} {lt : Nat → Int32} {tz : Nat → Nat} {tv : Nat → Nat → Int32} {ne : Nat} {en : Nat → Int32} {ef : Nat → Int32} {et : Nat → Int32} {ep : Nat → Int32} {ng : Nat} {D : Nat → Nat → Int32} {pr : Nat → Int32} {gn : Nat} {gc : Int32} {ld : Nat → Int32} {ll : Nat → Int32} {lc : Nat → Int32} {nw : Nat} {nb : Nat} {ns : Nat} {bd : Nat → Int32} {bl : Nat → Int32} {sd : Nat → Int32} {sl : Nat → Int32} {td : Int32} {tl : Int32} {fd : Int32} {st : Int32} {so : Nat → Option Nat} {ca : Int32} {cs : Int32} {cb : Int32} {cd : Int32} {I : Nat → Int32} {F : Nat → Nat → Int32} {L : Nat → Nat} (k : Nat) (y z9 : Int32) (hk : k < ng) (hy : ¬ mIn y 0 99 = 0) (hz : ¬ mIn z9 0 90 = 0) (hm : hmR tn tf nl l0 lf lt tz tv ne en ef et ep ng D pr gn gc ld ll lc nw nb ns bd bl sd sl td tl fd st so ca cs cb cd I F L) : (1 = (mDefects I F (nI k) y z9).1) ∧ hmR tn tf nl l0 lf lt tz tv ne en ef et ep ng (va_up (va_up D 5 (upd (D 5) k y)) 6 (upd ((va_up D 5 (upd (D 5) k y)) 6) k z9)) pr gn gc ld ll lc nw nb ns bd bl sd sl td tl fd st so ca cs cb cd ((mDefects I F (nI k) y z9).2.1) ((mDefects I F (nI k) y z9).2.2) L := by
  obtain ⟨hT, hL, hE, hG, hP, hD, hN, hB, hC⟩ := hm
  have hg := hG.1
  have e : mDefects I F (nI k) y z9 = (1, upd I 0 0, (va_up (va_up F 15 (upd (F 15) k y)) 16 (upd (F 16) k z9))) := by
    unfold mDefects
    rw [isl_in hG.2.1 hG.1, if_neg (mIn_kn hk (by omega)), if_neg hy, if_neg hz, nI_clamp (by omega)]
  rw [e]
  obtain ⟨x0, l0', e0⟩ := mIn_n (n := 99) hy (Int.le_refl _) rfl
  obtain ⟨x2, l2', e2⟩ := mIn_n (n := 90) hz (Int.le_refl _) rfl
  refine ⟨rfl, hT, hL, hE, ⟨hG.1, hG.2.1, fun j hj => ?_, fun j hj => ?_, fun j h1 h2 => ?_⟩, hP, hD, hN, hB, hC⟩
  · obtain ⟨a1, a5, a6, a7⟩ := hG.2.2.1 j hj
    show (D 0 j = F 10 j ∧ D 1 j = F 11 j ∧ D 2 j = F 12 j ∧ D 3 j = F 13 j ∧ D 4 j = F 14 j) ∧ upd (D 5) k y j = upd (F 15) k y j ∧ upd (D 6) k z9 j = upd (F 16) k z9 j ∧ D 7 j = F 18 j ∧ D 8 j = F 17 j
    refine ⟨a1, ?_, ?_, a7⟩
    · unfold upd
      by_cases c : j = k
      · rw [if_pos c, if_pos c]
      · rw [if_neg c, if_neg c]; exact a5
    · unfold upd
      by_cases c : j = k
      · rw [if_pos c, if_pos c]
      · rw [if_neg c, if_neg c]; exact a6
  · obtain ⟨a0, a2, a3, a5, a6, a7⟩ := hG.2.2.2.1 j hj
    show (∃ x, x < 6 ∧ D 0 j = nI x) ∧ (∃ x, x ≤ 99 ∧ D 2 j = nI x) ∧ (∃ x, x ≤ 60 ∧ D 3 j = nI x) ∧ (∃ x, x ≤ 99 ∧ upd (D 5) k y j = nI x) ∧ (∃ x, x ≤ 90 ∧ upd (D 6) k z9 j = nI x) ∧ ∃ x, x ≤ 99 ∧ D 7 j = nI x
    refine ⟨a0, a2, a3, ?_, ?_, a7⟩
    · unfold upd
      by_cases c : j = k
      · rw [if_pos c]; exact ⟨x0, l0', e0⟩
      · rw [if_neg c]; exact a5
    · unfold upd
      by_cases c : j = k
      · rw [if_pos c]; exact ⟨x2, l2', e2⟩
      · rw [if_neg c]; exact a6
  · show upd (F 15) k y j = 0 ∧ upd (F 16) k z9 j = 0 ∧ F 17 j = 0 ∧ F 18 j = 0
    rw [pk_un (by omega), pk_un (by omega)]
    exact hG.2.2.2.2 j h1 h2
theorem la_chkN {tn : Nat} {tf : Nat → Int32} {nl : Nat} {l0 : Nat → Int32} {lf : Nat → Int32} {lt : Nat → Int32} {tz : Nat → Nat} {tv : Nat → Nat → Int32} {ne : Nat} {en : Nat → Int32} {ef : Nat → Int32} {et : Nat → Int32} {ep : Nat → Int32} {ng : Nat} {D : Nat → Nat → Int32} {pr : Nat → Int32} {gn : Nat} {gc : Int32} {ld : Nat → Int32} {ll : Nat → Int32} {lc : Nat → Int32} {nw : Nat} {nb : Nat} {ns : Nat} {bd : Nat → Int32} {bl : Nat → Int32} {sd : Nat → Int32} {sl : Nat → Int32} {td : Int32} {tl : Int32} {fd : Int32} {st : Int32} {so : Nat → Option Nat} {ca : Int32} {cs : Int32} {cb : Int32} {cd : Int32} {I : Nat → Int32} {F : Nat → Nat → Int32} {L : Nat → Nat} (x y : Int32) (hok : hCok ng x y = false) (hm : hmR tn tf nl l0 lf lt tz tv ne en ef et ep ng D pr gn gc ld ll lc nw nb ns bd bl sd sl td tl fd st so ca cs cb cd I F L) : (0 = (mCheck I F x y).1) ∧ hmR tn tf nl l0 lf lt tz tv ne en ef et ep ng D pr gn gc ld ll lc nw nb ns bd bl sd sl td tl fd st so ca cs cb cd ((mCheck I F x y).2.1) ((mCheck I F x y).2.2) L := by
  obtain ⟨hT, hL, hE, hG, hP, hD, hN, hB, hC⟩ := hm
  have e : mCheck I F x y = (0, upd I 0 0, F) := by
    unfold mCheck
    rw [isl_in hG.2.1 hG.1]
    by_cases c1 : mIn x 0 (nI ng - 1) = 0
    · rw [if_pos c1]
    rw [if_neg c1]
    by_cases c2 : mIn y 1 99 = 0
    · rw [if_pos c2]
    refine absurd hok ?_
    unfold hCok
    rw [decide_eq_true c1, decide_eq_true c2]
    decide
  rw [e]
  exact ⟨rfl, hT, hL, hE, hG, hP, hD, hN, hB, hC⟩
theorem la_chk {tn : Nat} {tf : Nat → Int32} {nl : Nat} {l0 : Nat → Int32} {lf : Nat → Int32} {lt : Nat → Int32} {tz : Nat → Nat} {tv : Nat → Nat → Int32} {ne : Nat} {en : Nat → Int32} {ef : Nat → Int32} {et : Nat → Int32} {ep : Nat → Int32} {ng : Nat} {D : Nat → Nat → Int32} {pr : Nat → Int32} {gn : Nat} {gc : Int32} {ld : Nat → Int32} {ll : Nat → Int32} {lc : Nat → Int32} {nw : Nat} {nb : Nat} {ns : Nat} {bd : Nat → Int32} {bl : Nat → Int32} {sd : Nat → Int32} {sl : Nat → Int32} {td : Int32} {tl : Int32} {fd : Int32} {st : Int32} {so : Nat → Option Nat} {ca : Int32} {cs : Int32} {cb : Int32} {cd : Int32} {I : Nat → Int32} {F : Nat → Nat → Int32} {L : Nat → Nat} (k : Nat) (y : Int32) (hk : k < ng) (hy : ¬ mIn y 1 99 = 0) (hm : hmR tn tf nl l0 lf lt tz tv ne en ef et ep ng D pr gn gc ld ll lc nw nb ns bd bl sd sl td tl fd st so ca cs cb cd I F L) : (1 = (mCheck I F (nI k) y).1) ∧ hmR tn tf nl l0 lf lt tz tv ne en ef et ep ng (va_up D 7 (upd (D 7) k y)) pr gn gc ld ll lc nw nb ns bd bl sd sl td tl fd st so ca cs cb cd ((mCheck I F (nI k) y).2.1) ((mCheck I F (nI k) y).2.2) L := by
  obtain ⟨hT, hL, hE, hG, hP, hD, hN, hB, hC⟩ := hm
  have hg := hG.1
  have e : mCheck I F (nI k) y = (1, upd I 0 0, (va_up F 18 (upd (F 18) k y))) := by
    unfold mCheck
    rw [isl_in hG.2.1 hG.1, if_neg (mIn_kn hk (by omega)), if_neg hy, nI_clamp (by omega)]
  rw [e]
  obtain ⟨x0, l0', e0⟩ := mIn_n (n := 99) hy (by decide) rfl
  refine ⟨rfl, hT, hL, hE, ⟨hG.1, hG.2.1, fun j hj => ?_, fun j hj => ?_, fun j h1 h2 => ?_⟩, hP, hD, hN, hB, hC⟩
  · obtain ⟨a1, a5, a6, a7, a8⟩ := hG.2.2.1 j hj
    show (D 0 j = F 10 j ∧ D 1 j = F 11 j ∧ D 2 j = F 12 j ∧ D 3 j = F 13 j ∧ D 4 j = F 14 j) ∧ D 5 j = F 15 j ∧ D 6 j = F 16 j ∧ upd (D 7) k y j = upd (F 18) k y j ∧ D 8 j = F 17 j
    refine ⟨a1, a5, a6, ?_, a8⟩
    unfold upd
    by_cases c : j = k
    · rw [if_pos c, if_pos c]
    · rw [if_neg c, if_neg c]; exact a7
  · obtain ⟨a0, a2, a3, a5, a6, a7⟩ := hG.2.2.2.1 j hj
    show (∃ x, x < 6 ∧ D 0 j = nI x) ∧ (∃ x, x ≤ 99 ∧ D 2 j = nI x) ∧ (∃ x, x ≤ 60 ∧ D 3 j = nI x) ∧ (∃ x, x ≤ 99 ∧ D 5 j = nI x) ∧ (∃ x, x ≤ 90 ∧ D 6 j = nI x) ∧ ∃ x, x ≤ 99 ∧ upd (D 7) k y j = nI x
    refine ⟨a0, a2, a3, a5, a6, ?_⟩
    unfold upd
    by_cases c : j = k
    · rw [if_pos c]; exact ⟨x0, l0', e0⟩
    · rw [if_neg c]; exact a7
  · show F 15 j = 0 ∧ F 16 j = 0 ∧ F 17 j = 0 ∧ upd (F 18) k y j = 0
    rw [pk_un (by omega)]
    exact hG.2.2.2.2 j h1 h2
theorem la_scaleN {tn : Nat} {tf : Nat → Int32} {nl : Nat} {l0 : Nat → Int32} {lf : Nat → Int32} {lt : Nat → Int32} {tz : Nat → Nat} {tv : Nat → Nat → Int32} {ne : Nat} {en : Nat → Int32} {ef : Nat → Int32} {et : Nat → Int32} {ep : Nat → Int32} {ng : Nat} {D : Nat → Nat → Int32} {pr : Nat → Int32} {gn : Nat} {gc : Int32} {ld : Nat → Int32} {ll : Nat → Int32} {lc : Nat → Int32} {nw : Nat} {nb : Nat} {ns : Nat} {bd : Nat → Int32} {bl : Nat → Int32} {sd : Nat → Int32} {sl : Nat → Int32} {td : Int32} {tl : Int32} {fd : Int32} {st : Int32} {so : Nat → Option Nat} {ca : Int32} {cs : Int32} {cb : Int32} {cd : Int32} {I : Nat → Int32} {F : Nat → Nat → Int32} {L : Nat → Nat} (x q : Int32) (hok : mIn x 0 (nI ng - 1) = 0 ∨ mIn q 0 (nI nw) = 0) (hm : hmR tn tf nl l0 lf lt tz tv ne en ef et ep ng D pr gn gc ld ll lc nw nb ns bd bl sd sl td tl fd st so ca cs cb cd I F L) : -1 = mScale I F nl ne L x q := by
  obtain ⟨hT, hL, hE, hG, hP, hD, hN, hB, hC⟩ := hm
  unfold mScale
  rw [isl_in hG.2.1 hG.1, show mKnown (upd I 0 0) q = mIn q 0 (I 24) from rfl, hN.2]
  by_cases c : mIn x 0 (nI ng - 1) = 0
  · rw [if_pos c]
  · rw [if_neg c, if_pos (hok.resolve_left c)]
theorem la_scale {tn : Nat} {tf : Nat → Int32} {nl : Nat} {l0 : Nat → Int32} {lf : Nat → Int32} {lt : Nat → Int32} {tz : Nat → Nat} {tv : Nat → Nat → Int32} {ne : Nat} {en : Nat → Int32} {ef : Nat → Int32} {et : Nat → Int32} {ep : Nat → Int32} {ng : Nat} {D : Nat → Nat → Int32} {pr : Nat → Int32} {gn : Nat} {gc : Int32} {ld : Nat → Int32} {ll : Nat → Int32} {lc : Nat → Int32} {nw : Nat} {nb : Nat} {ns : Nat} {bd : Nat → Int32} {bl : Nat → Int32} {sd : Nat → Int32} {sl : Nat → Int32} {td : Int32} {tl : Int32} {fd : Int32} {st : Int32} {so : Nat → Option Nat} {ca : Int32} {cs : Int32} {cb : Int32} {cd : Int32} {I : Nat → Int32} {F : Nat → Nat → Int32} {L : Nat → Nat} (k : Nat) (q : Int32) (hk : k < ng) (hq : ¬ mIn q 0 (nI nw) = 0) (hm : hmR tn tf nl l0 lf lt tz tv ne en ef et ep ng D pr gn gc ld ll lc nw nb ns bd bl sd sl td tl fd st so ca cs cb cd I F L) : hSc l0 lf lt nl en ef et ep ne (mLv F L) D k q = mScale I F nl ne L (nI k) q := by
  obtain ⟨hT, hL, hE, hG, hP, hD, hN, hB, hC⟩ := hm
  have hg := hG.1
  unfold mScale
  rw [isl_in hG.2.1 hG.1, show mKnown (upd I 0 0) q = mIn q 0 (I 24) from rfl, hN.2, if_neg (mIn_kn hk (by omega)), if_neg hq, nI_clamp (by omega)]
  exact (hs_sc (rG_al hL hE hG) hk q).1
theorem la_sum {tn : Nat} {tf : Nat → Int32} {nl : Nat} {l0 : Nat → Int32} {lf : Nat → Int32} {lt : Nat → Int32} {tz : Nat → Nat} {tv : Nat → Nat → Int32} {ne : Nat} {en : Nat → Int32} {ef : Nat → Int32} {et : Nat → Int32} {ep : Nat → Int32} {ng : Nat} {D : Nat → Nat → Int32} {pr : Nat → Int32} {gn : Nat} {gc : Int32} {ld : Nat → Int32} {ll : Nat → Int32} {lc : Nat → Int32} {nw : Nat} {nb : Nat} {ns : Nat} {bd : Nat → Int32} {bl : Nat → Int32} {sd : Nat → Int32} {sl : Nat → Int32} {td : Int32} {tl : Int32} {fd : Int32} {st : Int32} {so : Nat → Option Nat} {ca : Int32} {cs : Int32} {cb : Int32} {cd : Int32} {I : Nat → Int32} {F : Nat → Nat → Int32} {L : Nat → Nat} (ow q : Int32) (hm : hmR tn tf nl l0 lf lt tz tv ne en ef et ep ng D pr gn gc ld ll lc nw nb ns bd bl sd sl td tl fd st so ca cs cb cd I F L) : (if mIn ow 0 5 = 0 then -1 else if mIn q 0 (nI nw) = 0 then -1 else hSm D (fun i => hSc l0 lf lt nl en ef et ep ne (mLv F L) D i q) ow ng 0 0) = mSum I F nl ne L ng ow q := by
  obtain ⟨hT, hL, hE, hG, hP, hD, hN, hB, hC⟩ := hm
  unfold mSum
  rw [show mKnown (upd I 0 0) q = mIn q 0 (I 24) from rfl, hN.2, sm_eq (rG_al hL hE hG) ow q ng 0 0 (Nat.zero_add _)]
theorem la_price {tn : Nat} {tf : Nat → Int32} {nl : Nat} {l0 : Nat → Int32} {lf : Nat → Int32} {lt : Nat → Int32} {tz : Nat → Nat} {tv : Nat → Nat → Int32} {ne : Nat} {en : Nat → Int32} {ef : Nat → Int32} {et : Nat → Int32} {ep : Nat → Int32} {ng : Nat} {D : Nat → Nat → Int32} {pr : Nat → Int32} {gn : Nat} {gc : Int32} {ld : Nat → Int32} {ll : Nat → Int32} {lc : Nat → Int32} {nw : Nat} {nb : Nat} {ns : Nat} {bd : Nat → Int32} {bl : Nat → Int32} {sd : Nat → Int32} {sl : Nat → Int32} {td : Int32} {tl : Int32} {fd : Int32} {st : Int32} {so : Nat → Option Nat} {ca : Int32} {cs : Int32} {cb : Int32} {cd : Int32} {I : Nat → Int32} {F : Nat → Nat → Int32} {L : Nat → Nat} (x y : Int32) (hm : hmR tn tf nl l0 lf lt tz tv ne en ef et ep ng D pr gn gc ld ll lc nw nb ns bd bl sd sl td tl fd st so ca cs cb cd I F L) : ((if hPok x y = true then 1 else 0) = (mPrice I F x y).1) ∧ hmR tn tf nl l0 lf lt tz tv ne en ef et ep ng D (if hPok x y = true then upd pr x.toNatClampNeg y else pr) gn gc ld ll lc nw nb ns bd bl sd sl td tl fd st so ca cs cb cd ((mPrice I F x y).2.1) ((mPrice I F x y).2.2) L := by
  obtain ⟨hT, hL, hE, hG, hP, hD, hN, hB, hC⟩ := hm
  by_cases ho : hPok x y = true
  · have ho2 := ho
    unfold hPok at ho2
    rw [Bool.and_eq_true, decide_eq_true_eq, decide_eq_true_eq] at ho2
    have e : mPrice I F x y = (1, upd I 0 0, va_up F 19 (upd (F 19) x.toNatClampNeg y)) := by
      unfold mPrice
      rw [if_neg ho2.1, if_neg ho2.2]
    rw [e, if_pos ho, if_pos ho]
    refine ⟨rfl, hT, hL, hE, hG, fun j hj => ?_, hD, hN, hB, hC⟩
    show upd pr x.toNatClampNeg y j = upd (F 19) x.toNatClampNeg y j
    unfold upd
    by_cases c : j = x.toNatClampNeg
    · rw [if_pos c, if_pos c]
    · rw [if_neg c, if_neg c]; exact hP j hj
  · have e : mPrice I F x y = (0, upd I 0 0, F) := by
      unfold mPrice
      by_cases c1 : mIn x 0 5 = 0
      · rw [if_pos c1]
      rw [if_neg c1]
      by_cases c2 : mIn y 0 20 = 0
      · rw [if_pos c2]
      refine absurd ?_ ho
      unfold hPok
      rw [decide_eq_true c1, decide_eq_true c2]
      rfl
    rw [e, if_neg ho, if_neg ho]
    exact ⟨rfl, hT, hL, hE, hG, hP, hD, hN, hB, hC⟩
theorem la_line {tn : Nat} {tf : Nat → Int32} {nl : Nat} {l0 : Nat → Int32} {lf : Nat → Int32} {lt : Nat → Int32} {tz : Nat → Nat} {tv : Nat → Nat → Int32} {ne : Nat} {en : Nat → Int32} {ef : Nat → Int32} {et : Nat → Int32} {ep : Nat → Int32} {ng : Nat} {D : Nat → Nat → Int32} {pr : Nat → Int32} {gn : Nat} {gc : Int32} {ld : Nat → Int32} {ll : Nat → Int32} {lc : Nat → Int32} {nw : Nat} {nb : Nat} {ns : Nat} {bd : Nat → Int32} {bl : Nat → Int32} {sd : Nat → Int32} {sl : Nat → Int32} {td : Int32} {tl : Int32} {fd : Int32} {st : Int32} {so : Nat → Option Nat} {ca : Int32} {cs : Int32} {cb : Int32} {cd : Int32} {I : Nat → Int32} {F : Nat → Nat → Int32} {L : Nat → Nat} (x y : Int32) (hm : hmR tn tf nl l0 lf lt tz tv ne en ef et ep ng D pr gn gc ld ll lc nw nb ns bd bl sd sl td tl fd st so ca cs cb cd I F L) : hLine gn ld ll lc x y = (mLine I F x y).1 ∧ jm I (mLine I F x y).2 := by
  obtain ⟨hT, hL, hE, hG, hP, hD, hN, hB, hC⟩ := hm
  have hgn := hD.1
  unfold hLine mLine
  rw [hD.2.1]
  by_cases c1 : mIn x 0 (nI gn - 1) = 0
  · rw [if_pos c1, if_pos c1]; exact ⟨rfl, jm_0 I 0⟩
  rw [if_neg c1, if_neg c1]
  obtain ⟨k, hk, rfl⟩ := mIn_k c1 (by omega)
  rw [nI_clamp (by omega)]
  obtain ⟨d1, d2, d3⟩ := hD.2.2.2 k hk
  by_cases c2 : mIn y 0 2 = 0
  · rw [if_pos c2, if_neg (fun z => by rw [z] at c2; exact absurd c2 (by decide)), if_neg (fun z => by rw [z] at c2; exact absurd c2 (by decide)), if_neg (fun z => by rw [z] at c2; exact absurd c2 (by decide))]
    exact ⟨rfl, jm_0 I 0⟩
  rw [if_neg c2]
  by_cases c3 : y = 0
  · rw [if_pos c3, if_pos c3]; exact ⟨d1, jm_0 I 0⟩
  rw [if_neg c3, if_neg c3]
  by_cases c4 : y = 1
  · rw [if_pos c4, if_pos c4]; exact ⟨d2, jm_0 I 0⟩
  rw [if_neg c4, if_neg c4]
  obtain ⟨j, hj, e⟩ := mIn_n (n := 2) c2 (Int.le_refl _) rfl
  have : j = 2 := by
    rcases (by omega : j = 0 ∨ j = 1 ∨ j = 2) with z | z | z
    · exact absurd (by rw [e, z]; rfl) c3
    · exact absurd (by rw [e, z]; rfl) c4
    · exact z
  rw [if_pos (by rw [e, this]; rfl)]
  exact ⟨d3, jm_0 I 0⟩
theorem la_near {tn : Nat} {tf : Nat → Int32} {nl : Nat} {l0 : Nat → Int32} {lf : Nat → Int32} {lt : Nat → Int32} {tz : Nat → Nat} {tv : Nat → Nat → Int32} {ne : Nat} {en : Nat → Int32} {ef : Nat → Int32} {et : Nat → Int32} {ep : Nat → Int32} {ng : Nat} {D : Nat → Nat → Int32} {pr : Nat → Int32} {gn : Nat} {gc : Int32} {ld : Nat → Int32} {ll : Nat → Int32} {lc : Nat → Int32} {nw : Nat} {nb : Nat} {ns : Nat} {bd : Nat → Int32} {bl : Nat → Int32} {sd : Nat → Int32} {sl : Nat → Int32} {td : Int32} {tl : Int32} {fd : Int32} {st : Int32} {so : Nat → Option Nat} {ca : Int32} {cs : Int32} {cb : Int32} {cd : Int32} {I : Nat → Int32} {F : Nat → Nat → Int32} {L : Nat → Nat} (x : Int32) (hm : hmR tn tf nl l0 lf lt tz tv ne en ef et ep ng D pr gn gc ld ll lc nw nb ns bd bl sd sl td tl fd st so ca cs cb cd I F L) : ((if mIn x 0 100 = 0 then 0 else 1) = (mNear I x).1) ∧ hmR tn tf nl l0 lf lt tz tv ne en ef et ep ng D pr gn gc ld ll lc nw nb ns bd bl sd sl td tl fd st so (if mIn x 0 100 = 0 then ca else x) cs cb cd ((mNear I x).2) F L := by
  obtain ⟨hT, hL, hE, hG, hP, hD, hN, hB, hC⟩ := hm
  unfold mNear
  by_cases c : mIn x 0 100 = 0
  · rw [if_pos c, if_pos c, if_pos c]
    exact ⟨rfl, hT, hL, hE, hG, hP, hD, hN, hB, hC⟩
  · rw [if_neg c, if_neg c, if_neg c]
    exact ⟨rfl, hT, hL, hE, hG, hP, hD, hN, hB, rfl, hC.2.1, hC.2.2.1, hC.2.2.2.1, (mIn_z c).1, (mIn_z c).2⟩
theorem la_judge {tn : Nat} {tf : Nat → Int32} {nl : Nat} {l0 : Nat → Int32} {lf : Nat → Int32} {lt : Nat → Int32} {tz : Nat → Nat} {tv : Nat → Nat → Int32} {ne : Nat} {en : Nat → Int32} {ef : Nat → Int32} {et : Nat → Int32} {ep : Nat → Int32} {ng : Nat} {D : Nat → Nat → Int32} {pr : Nat → Int32} {gn : Nat} {gc : Int32} {ld : Nat → Int32} {ll : Nat → Int32} {lc : Nat → Int32} {nw : Nat} {nb : Nat} {ns : Nat} {bd : Nat → Int32} {bl : Nat → Int32} {sd : Nat → Int32} {sl : Nat → Int32} {td : Int32} {tl : Int32} {fd : Int32} {st : Int32} {so : Nat → Option Nat} {ca : Int32} {cs : Int32} {cb : Int32} {cd : Int32} {I : Nat → Int32} {F : Nat → Nat → Int32} {L : Nat → Nat} (x y t : Int32) (hm : hmR tn tf nl l0 lf lt tz tv ne en ef et ep ng D pr gn gc ld ll lc nw nb ns bd bl sd sl td tl fd st so ca cs cb cd I F L) : ((if hJok x y t = true then crD x y t ca else -1) = (mJudge I x y t).1) ∧ hmR tn tf nl l0 lf lt tz tv ne en ef et ep ng D pr gn gc ld ll lc nw nb ns bd bl sd sl td tl fd st so ca (if hJok x y t = true then (crSt x y t ca) else cs) (if hJok x y t = true then (if crN x t ca = 0 then cb + 1 else cb) else cb) (if hJok x y t = true then (if crN y t ca = 0 then cd + 1 else cd) else cd) ((mJudge I x y t).2) F L := by
  obtain ⟨hT, hL, hE, hG, hP, hD, hN, hB, hC⟩ := hm
  obtain ⟨q46, q47, q48, q49, qa, qb⟩ := hC
  by_cases ho : hJok x y t = true
  · have ho2 := ho
    unfold hJok at ho2
    rw [Bool.and_eq_true, Bool.and_eq_true, decide_eq_true_eq, decide_eq_true_eq, decide_eq_true_eq] at ho2
    obtain ⟨⟨o1, o2⟩, o3⟩ := ho2
    have nx : mIsNear (upd I 0 0) x t = crN x t ca := by
      have := near_eq (I := upd I 0 0) (mIn_z o1) (mIn_z o3) (by show 0 ≤ (I 46).toInt ∧ (I 46).toInt ≤ 100; rw [q46]; exact ⟨qa, qb⟩)
      rw [← this]; show crN x t (I 46) = _; rw [q46]
    have ny : mIsNear (upd I 0 0) y t = crN y t ca := by
      have := near_eq (I := upd I 0 0) (mIn_z o2) (mIn_z o3) (by show 0 ≤ (I 46).toInt ∧ (I 46).toInt ≤ 100; rw [q46]; exact ⟨qa, qb⟩)
      rw [← this]; show crN y t (I 46) = _; rw [q46]
    have c01 : ∀ w, crN w t ca = 0 ∨ crN w t ca = 1 := fun w => ite01 _
    unfold mJudge
    rw [if_neg o1, if_neg o2, if_neg o3, nx, ny, if_pos ho, if_pos ho, if_pos ho, if_pos ho]
    unfold crD crSt
    have one : ¬ (1 : Int32) = 0 := by decide
    have zo : ¬ (0 : Int32) = 1 := by decide
    rcases c01 x with hx0 | hx0 <;> rcases c01 y with hy0 | hy0 <;> rw [hx0, hy0] <;> simp only [if_true, if_false, one, zo]
    · exact ⟨trivial, hT, hL, hE, hG, hP, hD, hN, hB, q46, rfl, by show I 48 + 1 = _; rw [q48], by show I 49 + 1 = _; rw [q49], qa, qb⟩
    · exact ⟨trivial, hT, hL, hE, hG, hP, hD, hN, hB, q46, rfl, by show I 48 + 1 = _; rw [q48], by show I 49 + 0 = _; rw [q49, Int32.add_zero], qa, qb⟩
    · exact ⟨trivial, hT, hL, hE, hG, hP, hD, hN, hB, q46, rfl, by show I 48 + 0 = _; rw [q48, Int32.add_zero], by show I 49 + 1 = _; rw [q49], qa, qb⟩
    · exact ⟨trivial, hT, hL, hE, hG, hP, hD, hN, hB, q46, rfl, by show I 48 + 0 = _; rw [q48, Int32.add_zero], by show I 49 + 0 = _; rw [q49, Int32.add_zero], qa, qb⟩
  · have e : mJudge I x y t = (-1, upd I 0 0) := by
      unfold mJudge
      by_cases c1 : mIn x 0 1000000 = 0
      · rw [if_pos c1]
      rw [if_neg c1]
      by_cases c2 : mIn y 0 1000000 = 0
      · rw [if_pos c2]
      rw [if_neg c2]
      by_cases c3 : mIn t 0 1000000 = 0
      · rw [if_pos c3]
      refine absurd ?_ ho
      unfold hJok
      rw [decide_eq_true c1, decide_eq_true c2, decide_eq_true c3]
      rfl
    rw [e, if_neg ho, if_neg ho, if_neg ho, if_neg ho]
    exact ⟨rfl, hT, hL, hE, hG, hP, hD, hN, hB, q46, q47, q48, q49, qa, qb⟩
theorem la_count {tn : Nat} {tf : Nat → Int32} {nl : Nat} {l0 : Nat → Int32} {lf : Nat → Int32} {lt : Nat → Int32} {tz : Nat → Nat} {tv : Nat → Nat → Int32} {ne : Nat} {en : Nat → Int32} {ef : Nat → Int32} {et : Nat → Int32} {ep : Nat → Int32} {ng : Nat} {D : Nat → Nat → Int32} {pr : Nat → Int32} {gn : Nat} {gc : Int32} {ld : Nat → Int32} {ll : Nat → Int32} {lc : Nat → Int32} {nw : Nat} {nb : Nat} {ns : Nat} {bd : Nat → Int32} {bl : Nat → Int32} {sd : Nat → Int32} {sl : Nat → Int32} {td : Int32} {tl : Int32} {fd : Int32} {st : Int32} {so : Nat → Option Nat} {ca : Int32} {cs : Int32} {cb : Int32} {cd : Int32} {I : Nat → Int32} {F : Nat → Nat → Int32} {L : Nat → Nat} (x : Int32) (hm : hmR tn tf nl l0 lf lt tz tv ne en ef et ep ng D pr gn gc ld ll lc nw nb ns bd bl sd sl td tl fd st so ca cs cb cd I F L) : hCount nw nl ng gn gc nb ns tn cs cb cd x = (mCount I F x).1 ∧ jm I (mCount I F x).2 := by
  obtain ⟨hT, hL, hE, hG, hP, hD, hN, hB, hC⟩ := hm
  have e : mCount I F x = (hCount nw nl ng gn gc nb ns tn cs cb cd x, upd I 0 0) := by
    unfold mCount hCount
    rw [hN.2, hL.2.1, hG.2.1, hD.2.1, hD.2.2.1, hB.1.2.2.1, hB.1.2.2.2, hT.2.1, hC.2.1, hC.2.2.1, hC.2.2.2.1]
    exact itp (itp (itp (itp (itp (itp (itp (itp (itp (itp (itp rfl))))))))))
  rw [e]
  exact ⟨rfl, jm_0 I 0⟩
theorem la_habit {ng : Nat} {D : Nat → Nat → Int32} {i : Int32} {F : Nat → Nat → Int32} (h : rG ng D i F) (rd ck : Nat → Nat) (stick wh : Int32) : hHab D rd ck ng stick wh = mHab F rd ck ng stick wh := hab_eq (fun k hk => (h.2.2.1 k hk).1.2.1) stick wh
theorem la_allow {tn : Nat} {tf : Nat → Int32} {nl : Nat} {l0 : Nat → Int32} {lf : Nat → Int32} {lt : Nat → Int32} {tz : Nat → Nat} {tv : Nat → Nat → Int32} {ne : Nat} {en : Nat → Int32} {ef : Nat → Int32} {et : Nat → Int32} {ep : Nat → Int32} {ng : Nat} {D : Nat → Nat → Int32} {pr : Nat → Int32} {gn : Nat} {gc : Int32} {ld : Nat → Int32} {ll : Nat → Int32} {lc : Nat → Int32} {nw : Nat} {nb : Nat} {ns : Nat} {bd : Nat → Int32} {bl : Nat → Int32} {sd : Nat → Int32} {sl : Nat → Int32} {td : Int32} {tl : Int32} {fd : Int32} {st : Int32} {so : Nat → Option Nat} {ca : Int32} {cs : Int32} {cb : Int32} {cd : Int32} {I : Nat → Int32} {F : Nat → Nat → Int32} {L : Nat → Nat} (x y : Int32) (hm : hmR tn tf nl l0 lf lt tz tv ne en ef et ep ng D pr gn gc ld ll lc nw nb ns bd bl sd sl td tl fd st so ca cs cb cd I F L) : ((if hAok x y = true then 1 else 0) = (mAllow I x y).1) ∧ hmR tn tf nl l0 lf lt tz tv ne en ef et ep ng D pr gn gc ld ll lc nw nb ns bd bl sd sl (if hAok x y = true then x else td) (if hAok x y = true then y else tl) fd (if hAok x y = true then 0 else st) so ca cs cb cd ((mAllow I x y).2) F L := by
  obtain ⟨hT, hL, hE, hG, hP, hD, hN, hB, hC⟩ := hm
  by_cases ho : hAok x y = true
  · have ho2 := ho
    unfold hAok at ho2
    rw [Bool.and_eq_true, decide_eq_true_eq, decide_eq_true_eq] at ho2
    have e : mAllow I x y = (1, (upd (upd (upd I 0 0) 44 x) 45 y)) := by
      unfold mAllow
      rw [if_neg ho2.1, if_neg ho2.2]
    rw [e, if_pos ho, if_pos ho, if_pos ho, if_pos ho]
    exact ⟨rfl, hT, hL, hE, hG, hP, hD, hN, ⟨hB.1, hB.2.1, hB.2.2.1, ⟨rfl, rfl⟩, hB.2.2.2.2.1, Or.inl rfl⟩, hC⟩
  · have e : mAllow I x y = (0, upd I 0 0) := by
      unfold mAllow
      by_cases c1 : mIn x 0 20 = 0
      · rw [if_pos c1]
      rw [if_neg c1]
      by_cases c2 : mIn y 0 20 = 0
      · rw [if_pos c2]
      refine absurd ?_ ho
      unfold hAok
      rw [decide_eq_true c1, decide_eq_true c2]
      rfl
    rw [e, if_neg ho, if_neg ho, if_neg ho, if_neg ho]
    exact ⟨rfl, hT, hL, hE, hG, hP, hD, hN, hB, hC⟩
theorem la_clear {tn : Nat} {tf : Nat → Int32} {nl : Nat} {l0 : Nat → Int32} {lf : Nat → Int32} {lt : Nat → Int32} {tz : Nat → Nat} {tv : Nat → Nat → Int32} {ne : Nat} {en : Nat → Int32} {ef : Nat → Int32} {et : Nat → Int32} {ep : Nat → Int32} {ng : Nat} {D : Nat → Nat → Int32} {pr : Nat → Int32} {gn : Nat} {gc : Int32} {ld : Nat → Int32} {ll : Nat → Int32} {lc : Nat → Int32} {nw : Nat} {nb : Nat} {ns : Nat} {bd : Nat → Int32} {bl : Nat → Int32} {sd : Nat → Int32} {sl : Nat → Int32} {td : Int32} {tl : Int32} {fd : Int32} {st : Int32} {so : Nat → Option Nat} {ca : Int32} {cs : Int32} {cb : Int32} {cd : Int32} {I : Nat → Int32} {F : Nat → Nat → Int32} {L : Nat → Nat}  (hm : hmR tn tf nl l0 lf lt tz tv ne en ef et ep ng D pr gn gc ld ll lc nw nb ns bd bl sd sl td tl fd st so ca cs cb cd I F L) : (True) ∧ hmR tn tf nl l0 lf lt tz tv ne en ef et ep ng D pr gn gc ld ll lc nw 0 0 bd bl sd sl td tl fd 0 so ca cs cb cd ((mClear I F).1) ((mClear I F).2) L := by
  obtain ⟨hT, hL, hE, hG, hP, hD, hN, hB, hC⟩ := hm
  exact ⟨trivial, hT, hL, hE, hG, hP, hD, hN, ⟨⟨by decide, by decide, rfl, rfl⟩, fun j hj => absurd hj (Nat.not_lt_zero j), fun j hj => absurd hj (Nat.not_lt_zero j), hB.2.2.2.1, hB.2.2.2.2.1, Or.inl rfl⟩, hC⟩
theorem mRow_e {I : Nat → Int32} {F : Nat → Nat → Int32} {t k : Nat} {x y : Int32} (hk : k ≤ 20) : mRow I F t k x y = if hRok x y = true then (if k < 20 then ((nI k), (upd I 0 0), (va_up (va_up (va_up F 38 (upd (F 38) (20 * t + k) x)) 39 (upd (F 39) (20 * t + k) y)) 40 (upd (F 40) t (nI (k + 1))))) else (-1, upd I 0 0, F)) else (-1, upd I 0 0, F) := by
  unfold mRow hRok
  by_cases c1 : mIn x 1 99 = 0
  · rw [if_pos c1, decide_eq_false (fun z => z c1), Bool.false_and, if_neg Bool.false_ne_true]
  by_cases c2 : mIn y 1 60 = 0
  · rw [if_neg c1, if_pos c2, decide_eq_false (p := ¬ mIn y 1 60 = 0) (fun z => z c2), Bool.and_false, if_neg Bool.false_ne_true]
  rw [if_neg c1, if_neg c2, decide_eq_true (p := ¬ mIn x 1 99 = 0) c1, decide_eq_true (p := ¬ mIn y 1 60 = 0) c2, if_pos (show (true && true) = true from rfl)]
  by_cases c3 : k < 20
  · rw [if_pos c3, if_neg (fun z => by have := nI_inj2 (b := 20) z (by omega) (by decide); omega)]
  · rw [if_neg c3, if_pos (by rw [show k = 20 by omega]; rfl)]
theorem la_row0 {tn : Nat} {tf : Nat → Int32} {nl : Nat} {l0 : Nat → Int32} {lf : Nat → Int32} {lt : Nat → Int32} {tz : Nat → Nat} {tv : Nat → Nat → Int32} {ne : Nat} {en : Nat → Int32} {ef : Nat → Int32} {et : Nat → Int32} {ep : Nat → Int32} {ng : Nat} {D : Nat → Nat → Int32} {pr : Nat → Int32} {gn : Nat} {gc : Int32} {ld : Nat → Int32} {ll : Nat → Int32} {lc : Nat → Int32} {nw : Nat} {nb : Nat} {ns : Nat} {bd : Nat → Int32} {bl : Nat → Int32} {sd : Nat → Int32} {sl : Nat → Int32} {td : Int32} {tl : Int32} {fd : Int32} {st : Int32} {so : Nat → Option Nat} {ca : Int32} {cs : Int32} {cb : Int32} {cd : Int32} {I : Nat → Int32} {F : Nat → Nat → Int32} {L : Nat → Nat} (x y : Int32) (hm : hmR tn tf nl l0 lf lt tz tv ne en ef et ep ng D pr gn gc ld ll lc nw nb ns bd bl sd sl td tl fd st so ca cs cb cd I F L) : ((if hRok x y = true then (if nb < 20 then nI nb else -1) else -1) = (mRow I F 0 nb x y).1) ∧ hmR tn tf nl l0 lf lt tz tv ne en ef et ep ng D pr gn gc ld ll lc nw (if hRok x y = true then tyN nb else nb) ns (if hRok x y = true then tyU nb bd x else bd) (if hRok x y = true then tyU nb bl y else bl) sd sl td tl fd (if hRok x y = true then 0 else st) so ca cs cb cd ((mRow I F 0 nb x y).2.1) ((mRow I F 0 nb x y).2.2) L := by
  obtain ⟨hT, hL, hE, hG, hP, hD, hN, hB, hC⟩ := hm
  have hb1 := hB.1.1
  have hb2 := hB.1.2.1
  rw [mRow_e (by omega)]
  by_cases ho : hRok x y = true
  · rw [if_pos ho, if_pos ho, if_pos ho, if_pos ho, if_pos ho, if_pos ho]
    unfold tyN tyU
    by_cases c : nb < 20
    · rw [if_pos c, if_pos c, if_pos c, if_pos c, if_pos c]
      have ei : 20 * 0 + nb = nb := by omega
      rw [ei]
      have gown : (∀ j, j < nb + 1 → upd bd nb x j = upd (F 38) (nb) x (j) ∧ upd bl nb y j = upd (F 39) (nb) y (j)) := fun j hj => by
        by_cases q : j = nb
        · rw [q, pk_us, pk_us, pk_us, pk_us]; exact ⟨rfl, rfl⟩
        · rw [pk_un q, pk_un q, pk_un (by omega), pk_un (by omega)]; exact hB.2.1 j (by omega)
      have goth : (∀ j, j < ns → sd j = upd (F 38) (nb) x (20 + j) ∧ sl j = upd (F 39) (nb) y (20 + j)) := fun j hj => by
        rw [pk_un (by omega), pk_un (by omega)]; exact hB.2.2.1 j hj
      exact ⟨rfl, hT, hL, hE, hG, hP, hD, hN, ⟨⟨by omega, hB.1.2.1, rfl, hB.1.2.2.2⟩, gown, goth, hB.2.2.2.1, hB.2.2.2.2.1, Or.inl rfl⟩, hC⟩
    · rw [if_neg c, if_neg c, if_neg c, if_neg c, if_neg c]
      exact ⟨rfl, hT, hL, hE, hG, hP, hD, hN, ⟨hB.1, hB.2.1, hB.2.2.1, hB.2.2.2.1, hB.2.2.2.2.1, Or.inl rfl⟩, hC⟩
  · rw [if_neg ho, if_neg ho, if_neg ho, if_neg ho, if_neg ho, if_neg ho]
    exact ⟨rfl, hT, hL, hE, hG, hP, hD, hN, hB, hC⟩
theorem la_row1 {tn : Nat} {tf : Nat → Int32} {nl : Nat} {l0 : Nat → Int32} {lf : Nat → Int32} {lt : Nat → Int32} {tz : Nat → Nat} {tv : Nat → Nat → Int32} {ne : Nat} {en : Nat → Int32} {ef : Nat → Int32} {et : Nat → Int32} {ep : Nat → Int32} {ng : Nat} {D : Nat → Nat → Int32} {pr : Nat → Int32} {gn : Nat} {gc : Int32} {ld : Nat → Int32} {ll : Nat → Int32} {lc : Nat → Int32} {nw : Nat} {nb : Nat} {ns : Nat} {bd : Nat → Int32} {bl : Nat → Int32} {sd : Nat → Int32} {sl : Nat → Int32} {td : Int32} {tl : Int32} {fd : Int32} {st : Int32} {so : Nat → Option Nat} {ca : Int32} {cs : Int32} {cb : Int32} {cd : Int32} {I : Nat → Int32} {F : Nat → Nat → Int32} {L : Nat → Nat} (x y : Int32) (hm : hmR tn tf nl l0 lf lt tz tv ne en ef et ep ng D pr gn gc ld ll lc nw nb ns bd bl sd sl td tl fd st so ca cs cb cd I F L) : ((if hRok x y = true then (if ns < 20 then nI ns else -1) else -1) = (mRow I F 1 ns x y).1) ∧ hmR tn tf nl l0 lf lt tz tv ne en ef et ep ng D pr gn gc ld ll lc nw nb (if hRok x y = true then tyN ns else ns) bd bl (if hRok x y = true then tyU ns sd x else sd) (if hRok x y = true then tyU ns sl y else sl) td tl fd (if hRok x y = true then 0 else st) so ca cs cb cd ((mRow I F 1 ns x y).2.1) ((mRow I F 1 ns x y).2.2) L := by
  obtain ⟨hT, hL, hE, hG, hP, hD, hN, hB, hC⟩ := hm
  have hb1 := hB.1.1
  have hb2 := hB.1.2.1
  rw [mRow_e (by omega)]
  by_cases ho : hRok x y = true
  · rw [if_pos ho, if_pos ho, if_pos ho, if_pos ho, if_pos ho, if_pos ho]
    unfold tyN tyU
    by_cases c : ns < 20
    · rw [if_pos c, if_pos c, if_pos c, if_pos c, if_pos c]
      have ei : 20 * 1 + ns = 20 + ns := by omega
      rw [ei]
      have gown : (∀ j, j < ns + 1 → upd sd ns x j = upd (F 38) (20 + ns) x (20 + j) ∧ upd sl ns y j = upd (F 39) (20 + ns) y (20 + j)) := fun j hj => by
        by_cases q : j = ns
        · rw [q, pk_us, pk_us, pk_us, pk_us]; exact ⟨rfl, rfl⟩
        · rw [pk_un q, pk_un q, pk_un (by omega), pk_un (by omega)]; exact hB.2.2.1 j (by omega)
      have goth : (∀ j, j < nb → bd j = upd (F 38) (20 + ns) x (j) ∧ bl j = upd (F 39) (20 + ns) y (j)) := fun j hj => by
        rw [pk_un (by omega), pk_un (by omega)]; exact hB.2.1 j hj
      exact ⟨rfl, hT, hL, hE, hG, hP, hD, hN, ⟨⟨hB.1.1, by omega, hB.1.2.2.1, rfl⟩, goth, gown, hB.2.2.2.1, hB.2.2.2.2.1, Or.inl rfl⟩, hC⟩
    · rw [if_neg c, if_neg c, if_neg c, if_neg c, if_neg c]
      exact ⟨rfl, hT, hL, hE, hG, hP, hD, hN, ⟨hB.1, hB.2.1, hB.2.2.1, hB.2.2.2.1, hB.2.2.2.2.1, Or.inl rfl⟩, hC⟩
  · rw [if_neg ho, if_neg ho, if_neg ho, if_neg ho, if_neg ho, if_neg ho]
    exact ⟨rfl, hT, hL, hE, hG, hP, hD, hN, hB, hC⟩
theorem va_same {α : Type} {F : Nat → α} {k : Nat} {v : α} (h : F k = v) : va_up F k v = F := by
  funext j
  unfold va_up
  by_cases e : j = k
  · rw [if_pos e, e, h]
  · rw [if_neg e]
theorem F3_same {F : Nat → Nat → Int32} {h0 : Nat → Option Nat} {t0 tk : Nat → Bool} (h1 : F 41 = oF h0) (h2 : F 43 = bF t0) (h3 : F 42 = bF tk) : va_up (va_up (va_up F 42 (bF tk)) 41 (oF h0)) 43 (bF t0) = F := by
  rw [va_same h3, va_same h1, va_same h2]
theorem m_pairsF (l : Launch) (G : gG) (ad : Nat → Nat) (I : Nat → Int32) (F : Nat → Nat → Int32) (rw : Nat) (gd gl : Int64) (tk : Nat → Bool) (na nb : Nat) (hna : F 40 0 = nI na) (hnb : F 40 1 = nI nb) (hna2 : na ≤ 20) (hnb2 : nb ≤ 20) (h0 : Nat → Option Nat) (t0 : Nat → Bool) (h1 : F 41 = oF h0) (h2 : F 43 = bF t0) (h3 : F 42 = bF tk) : cM l yX10_pairs wsX10_pairs 31 750 (0) (0) G [.ref (ad 0)] (mW G ad I F rw gd gl) (qI G (S := KS) (fun r _ => r = nI (kX (mE I F) 0 na nb (flg false 20 tk))) (fun u => mW G ad (upd I 0 0) (va_up (va_up (va_up F 42 (bF (flg false 20 tk))) 41 (oF u.1)) 43 (bF u.2)) rw gd gl)) := by
  have h := m_pairs l G ad I F rw gd gl tk na nb hna hnb hna2 hnb2 h0 t0
  rw [F3_same h1 h2 h3] at h
  exact h
theorem m_pairNF (l : Launch) (G : gG) (ad : Nat → Nat) (I : Nat → Int32) (F : Nat → Nat → Int32) (rw : Nat) (gd gl : Int64) (tk : Nat → Bool) (na nb : Nat) (hna : F 40 0 = nI na) (hnb : F 40 1 = nI nb) (hna2 : na ≤ 20) (hnb2 : nb ≤ 20) (h0 : Nat → Option Nat) (t0 : Nat → Bool) (h1 : F 41 = oF h0) (h2 : F 43 = bF t0) (h3 : F 42 = bF tk) (x : Int32) (hx9 : mIn x 0 (nI na - 1) = 0) : cM l yX10_pair wsX10_pair 32 800 (0) (0) G [.ref (ad 0), .int x] (mW G ad I F rw gd gl) (qI G (S := Unit) (fun r _ => r = -1) (fun _ => mW G ad (upd I 0 0) F rw gd gl)) := by
  have h := m_pairN l G ad I F rw gd gl tk na nb hna hnb hna2 hnb2 h0 t0 x hx9
  rw [F3_same h1 h2 h3] at h
  exact h
theorem m_pairF (l : Launch) (G : gG) (ad : Nat → Nat) (I : Nat → Int32) (F : Nat → Nat → Int32) (rw : Nat) (gd gl : Int64) (tk : Nat → Bool) (na nb : Nat) (hna : F 40 0 = nI na) (hnb : F 40 1 = nI nb) (hna2 : na ≤ 20) (hnb2 : nb ≤ 20) (h0 : Nat → Option Nat) (t0 : Nat → Bool) (h1 : F 41 = oF h0) (h2 : F 43 = bF t0) (h3 : F 42 = bF tk) (row : Nat) (hrow : row < na) : cM l yX10_pair wsX10_pair 31 750 (0) (0) G [.ref (ad 0), .int (nI row)] (mW G ad I F rw gd gl) (qI G (S := (Nat → Bool) × KS) (fun r _ => r = oI (pP (mE I F) na nb row 0 (kX (mE I F) 0 na nb (flg false 20 tk)) (flg false 20 tk))) (fun u => mW G ad (upd I 0 0) (va_up (va_up (va_up F 42 (bF u.1)) 41 (oF u.2.1)) 43 (bF u.2.2)) rw gd gl)) := by
  have h := m_pair l G ad I F rw gd gl tk na nb hna hnb hna2 hnb2 h0 t0 row hrow
  rw [F3_same h1 h2 h3] at h
  exact h
theorem pP_cg {E : Nat → Nat → Bool} {na nb : Nat} : ∀ (r a lf : Nat) (tk tk2 : Nat → Bool), a + r < na → (∀ b, b < nb → tk b = tk2 b) → pP E na nb r a lf tk = pP E na nb r a lf tk2
  | 0, a, lf, tk, tk2, ha, ht => pI_cg ha (fun _ _ _ _ => rfl) ht nb 0 (Nat.zero_add _)
  | r + 1, a, lf, tk, tk2, ha, ht => by
    rw [pP, pP, pI_cg (E2 := E) (tk2 := tk2) (by omega) (fun _ _ _ _ => rfl) ht nb 0 (Nat.zero_add _)]
    refine pP_cg r (a + 1) _ _ _ (by omega) (fun b hb => ?_)
    cases pI E na nb a lf tk2 nb 0 with
    | none => exact ht b hb
    | some q =>
      show va_up tk q true b = va_up tk2 q true b
      unfold va_up
      by_cases e : b = q
      · rw [if_pos e, if_pos e]
      · rw [if_neg e, if_neg e]; exact ht b hb
theorem rB_E {nb ns : Nat} {bd bl sd sl : Nat → Int32} {td tl fd st : Int32} {so : Nat → Option Nat} {I : Nat → Int32} {F : Nat → Nat → Int32} (h : rB nb ns bd bl sd sl td tl fd st so (I 44) (I 45) F) : ∀ a b, a < nb → b < ns → hAg td tl bd bl sd sl a b = mE I F a b := fun a b ha hb => ag_eq h.2.2.2.1.1 h.2.2.2.1.2 (h.2.1 a ha).1 (h.2.1 a ha).2 (h.2.2.1 b hb).1 (h.2.2.1 b hb).2
theorem la_kx {nb ns : Nat} {bd bl sd sl : Nat → Int32} {td tl fd st : Int32} {so : Nat → Option Nat} {I : Nat → Int32} {F : Nat → Nat → Int32} (h : rB nb ns bd bl sd sl td tl fd st so (I 44) (I 45) F) (tk : Nat → Bool) : kX (hAg td tl bd bl sd sl) 0 nb ns (fun _ => false) = kX (mE I F) 0 nb ns (flg false 20 tk) := kX_cg (Nat.zero_le _) (fun a b _ l2 l3 => rB_E h a b l2 l3) (fun b hb => by have := h.1.2.1; exact (if_pos (show b < 20 by omega)).symm)
theorem la_cx {nb ns : Nat} {bd bl sd sl : Nat → Int32} {td tl fd st : Int32} {so : Nat → Option Nat} {I : Nat → Int32} {F : Nat → Nat → Int32} (h : rB nb ns bd bl sd sl td tl fd st so (I 44) (I 45) F) (tk : Nat → Bool) {row : Nat} (hr : row < nb) : cX (hAg td tl bd bl sd sl) nb ns row = pP (mE I F) nb ns row 0 (kX (mE I F) 0 nb ns (flg false 20 tk)) (flg false 20 tk) := by
  have hns := h.1.2.1
  rw [cX_cg hr (rB_E h), kX_cg (tk2 := fun _ => false) (Nat.zero_le _) (fun _ _ _ _ _ => rfl) (fun b hb => if_pos (show b < 20 by omega)), pP_cg row 0 _ _ (fun _ => false) (by omega) (fun b hb => if_pos (show b < 20 by omega))]
  have := pP_cX (mE I F) nb ns row 0
  rw [Nat.zero_add] at this
  exact this.symm
theorem la_pairs {tn : Nat} {tf : Nat → Int32} {nl : Nat} {l0 : Nat → Int32} {lf : Nat → Int32} {lt : Nat → Int32} {tz : Nat → Nat} {tv : Nat → Nat → Int32} {ne : Nat} {en : Nat → Int32} {ef : Nat → Int32} {et : Nat → Int32} {ep : Nat → Int32} {ng : Nat} {D : Nat → Nat → Int32} {pr : Nat → Int32} {gn : Nat} {gc : Int32} {ld : Nat → Int32} {ll : Nat → Int32} {lc : Nat → Int32} {nw : Nat} {nb : Nat} {ns : Nat} {bd : Nat → Int32} {bl : Nat → Int32} {sd : Nat → Int32} {sl : Nat → Int32} {td : Int32} {tl : Int32} {fd : Int32} {st : Int32} {so : Nat → Option Nat} {ca : Int32} {cs : Int32} {cb : Int32} {cd : Int32} {I : Nat → Int32} {F : Nat → Nat → Int32} {L : Nat → Nat} (tk t2 : Nat → Bool) (h2 : Nat → Option Nat) (hm : hmR tn tf nl l0 lf lt tz tv ne en ef et ep ng D pr gn gc ld ll lc nw nb ns bd bl sd sl td tl fd st so ca cs cb cd I F L) : (nI (kX (hAg td tl bd bl sd sl) 0 nb ns (fun _ => false)) = nI (kX (mE I F) 0 nb ns (flg false 20 tk))) ∧ hmR tn tf nl l0 lf lt tz tv ne en ef et ep ng D pr gn gc ld ll lc nw nb ns bd bl sd sl td tl fd st so ca cs cb cd (upd I 0 0) (va_up (va_up (va_up F 42 (bF (flg false 20 tk))) 41 (oF h2)) 43 (bF t2)) L := by
  obtain ⟨hT, hL, hE, hG, hP, hD, hN, hB, hC⟩ := hm
  exact ⟨by rw [la_kx hB tk], hT, hL, hE, hG, hP, hD, hN, ⟨hB.1, hB.2.1, hB.2.2.1, hB.2.2.2.1, ⟨h2, t2, _, rfl, rfl, rfl⟩, hB.2.2.2.2.2⟩, hC⟩
theorem la_pair {tn : Nat} {tf : Nat → Int32} {nl : Nat} {l0 : Nat → Int32} {lf : Nat → Int32} {lt : Nat → Int32} {tz : Nat → Nat} {tv : Nat → Nat → Int32} {ne : Nat} {en : Nat → Int32} {ef : Nat → Int32} {et : Nat → Int32} {ep : Nat → Int32} {ng : Nat} {D : Nat → Nat → Int32} {pr : Nat → Int32} {gn : Nat} {gc : Int32} {ld : Nat → Int32} {ll : Nat → Int32} {lc : Nat → Int32} {nw : Nat} {nb : Nat} {ns : Nat} {bd : Nat → Int32} {bl : Nat → Int32} {sd : Nat → Int32} {sl : Nat → Int32} {td : Int32} {tl : Int32} {fd : Int32} {st : Int32} {so : Nat → Option Nat} {ca : Int32} {cs : Int32} {cb : Int32} {cd : Int32} {I : Nat → Int32} {F : Nat → Nat → Int32} {L : Nat → Nat} (tk u1 u3 : Nat → Bool) (u2 : Nat → Option Nat) (row : Nat) (hrow : row < nb) (hm : hmR tn tf nl l0 lf lt tz tv ne en ef et ep ng D pr gn gc ld ll lc nw nb ns bd bl sd sl td tl fd st so ca cs cb cd I F L) : (oI (cX (hAg td tl bd bl sd sl) nb ns row) = oI (pP (mE I F) nb ns row 0 (kX (mE I F) 0 nb ns (flg false 20 tk)) (flg false 20 tk))) ∧ hmR tn tf nl l0 lf lt tz tv ne en ef et ep ng D pr gn gc ld ll lc nw nb ns bd bl sd sl td tl fd st so ca cs cb cd (upd I 0 0) (va_up (va_up (va_up F 42 (bF u1)) 41 (oF u2)) 43 (bF u3)) L := by
  obtain ⟨hT, hL, hE, hG, hP, hD, hN, hB, hC⟩ := hm
  exact ⟨by rw [la_cx hB tk hrow], hT, hL, hE, hG, hP, hD, hN, ⟨hB.1, hB.2.1, hB.2.2.1, hB.2.2.2.1, ⟨u2, u3, u1, rfl, rfl, rfl⟩, hB.2.2.2.2.2⟩, hC⟩
theorem la_settle {tn : Nat} {tf : Nat → Int32} {nl : Nat} {l0 : Nat → Int32} {lf : Nat → Int32} {lt : Nat → Int32} {tz : Nat → Nat} {tv : Nat → Nat → Int32} {ne : Nat} {en : Nat → Int32} {ef : Nat → Int32} {et : Nat → Int32} {ep : Nat → Int32} {ng : Nat} {D : Nat → Nat → Int32} {pr : Nat → Int32} {gn : Nat} {gc : Int32} {ld : Nat → Int32} {ll : Nat → Int32} {lc : Nat → Int32} {nw : Nat} {nb : Nat} {ns : Nat} {bd : Nat → Int32} {bl : Nat → Int32} {sd : Nat → Int32} {sl : Nat → Int32} {td : Int32} {tl : Int32} {fd : Int32} {st : Int32} {so : Nat → Option Nat} {ca : Int32} {cs : Int32} {cb : Int32} {cd : Int32} {I : Nat → Int32} {F : Nat → Nat → Int32} {L : Nat → Nat} (so2 : Nat → Option Nat) (h2 : ∀ q, q < nb → so2 q = cX (hAg td tl bd bl sd sl) nb ns q) (hm : hmR tn tf nl l0 lf lt tz tv ne en ef et ep ng D pr gn gc ld ll lc nw nb ns bd bl sd sl td tl fd st so ca cs cb cd I F L) : (True) ∧ hmR tn tf nl l0 lf lt tz tv ne en ef et ep ng D pr gn gc ld ll lc nw nb ns bd bl sd sl td tl (nI (kX (hAg td tl bd bl sd sl) 0 nb ns (fun _ => false))) 1 so2 ca cs cb cd I F L := by
  obtain ⟨hT, hL, hE, hG, hP, hD, hN, hB, hC⟩ := hm
  exact ⟨trivial, hT, hL, hE, hG, hP, hD, hN, ⟨hB.1, hB.2.1, hB.2.2.1, hB.2.2.2.1, hB.2.2.2.2.1, Or.inr ⟨rfl, rfl, h2⟩⟩, hC⟩
theorem mCn_c2 {p p2 b b2 : Nat → Int32} : ∀ (r i : Nat), (∀ j, i ≤ j → j < i + r → p j = p2 j ∧ b j = b2 j) → mCn p b r i = mCn p2 b2 r i
  | 0, _, _ => rfl
  | r + 1, i, h => by rw [mCn, mCn, (h i (Nat.le_refl _) (by omega)).1, (h i (Nat.le_refl _) (by omega)).2, mCn_c2 r (i + 1) (fun j h1 h2 => h j (by omega) (by omega))]
def bkR (ng : Nat) (b b2 : DB) : Prop := (∀ j, j < ng → b.1 j = b2.1 j) ∧ b.2.2.2.2.1 = b2.2.2.2.2.1 ∧ b.2.2.2.2.2 = b2.2.2.2.2.2 ∧ ∀ j, j < b2.2.2.2.2.1 → b.2.1 j = b2.2.1 j ∧ b.2.2.1 j = b2.2.2.1 j ∧ b.2.2.2.1 j = b2.2.2.2.1 j
theorem mBk_R {p p2 : Nat → Int32} (now : Int32) {ng : Nat} (hp : ∀ j, j < ng → p j = p2 j) : ∀ (r i : Nat) (b b2 : DB), i + r = ng → bkR ng b b2 → bkR ng (mBk p now r i b) (mBk p2 now r i b2)
  | 0, _, _, _, _, h => h
  | r + 1, i, b, b2, hi, h => by
    rw [mBk, mBk]
    refine mBk_R now hp r (i + 1) _ _ (by omega) ?_
    obtain ⟨h1, h2, h3, h4⟩ := h
    have hpi := hp i (by omega)
    have hbi := h1 i (by omega)
    rw [hpi, hbi]
    split
    · exact ⟨h1, h2, h3, h4⟩
    · refine ⟨fun j hj => ?_, ?_, ?_, fun j hj => ?_⟩
      · show upd b.1 i (p2 i) j = upd b2.1 i (p2 i) j
        unfold upd
        by_cases e : j = i
        · rw [if_pos e, if_pos e]
        · rw [if_neg e, if_neg e]; exact h1 j hj
      · show b.2.2.2.2.1 + 1 = b2.2.2.2.2.1 + 1
        rw [h2]
      · show b.2.2.2.2.2 + (p2 i - b2.1 i) = b2.2.2.2.2.2 + (p2 i - b2.1 i)
        rw [h3]
      · show upd b.2.1 b.2.2.2.2.1 now j = upd b2.2.1 b2.2.2.2.2.1 now j ∧ upd b.2.2.1 b.2.2.2.2.1 (nI i) j = upd b2.2.2.1 b2.2.2.2.2.1 (nI i) j ∧ upd b.2.2.2.1 b.2.2.2.2.1 (p2 i - b2.1 i) j = upd b2.2.2.2.1 b2.2.2.2.2.1 (p2 i - b2.1 i) j
        have hj : j < b2.2.2.2.2.1 + 1 := hj
        rw [h2]
        unfold upd
        by_cases e : j = b2.2.2.2.2.1
        · simp only [if_pos e]; exact ⟨trivial, trivial, trivial⟩
        · simp only [if_neg e]; exact h4 j (by omega)
theorem mBk_hi {p : Nat → Int32} (now : Int32) : ∀ (r i : Nat) (b : DB) (k : Nat), i + r ≤ k → (mBk p now r i b).1 k = b.1 k
  | 0, _, _, _, _ => rfl
  | r + 1, i, b, k, h => by
    rw [mBk, mBk_hi now r (i + 1) _ k (by omega)]
    split
    · rfl
    · show upd b.1 i (p i) k = b.1 k
      exact pk_un (by omega)
theorem mBk_ct {p : Nat → Int32} (now : Int32) : ∀ (r i : Nat) (b : DB), (mBk p now r i b).2.2.2.2.1 = b.2.2.2.2.1 + mCn p b.1 r i
  | 0, _, _ => rfl
  | r + 1, i, b => by
    rw [mBk, mBk_ct now r (i + 1), mCn]
    split
    · omega
    · show b.2.2.2.2.1 + 1 + mCn p (upd b.1 i (p i)) r (i + 1) = _
      rw [mCn_up _ _ _ _ _ _ (by omega)]
      omega
theorem la_cn {tn : Nat} {tf : Nat → Int32} {nl : Nat} {l0 : Nat → Int32} {lf : Nat → Int32} {lt : Nat → Int32} {tz : Nat → Nat} {tv : Nat → Nat → Int32} {ne : Nat} {en : Nat → Int32} {ef : Nat → Int32} {et : Nat → Int32} {ep : Nat → Int32} {ng : Nat} {D : Nat → Nat → Int32} {pr : Nat → Int32} {gn : Nat} {gc : Int32} {ld : Nat → Int32} {ll : Nat → Int32} {lc : Nat → Int32} {nw : Nat} {nb : Nat} {ns : Nat} {bd : Nat → Int32} {bl : Nat → Int32} {sd : Nat → Int32} {sl : Nat → Int32} {td : Int32} {tl : Int32} {fd : Int32} {st : Int32} {so : Nat → Option Nat} {ca : Int32} {cs : Int32} {cb : Int32} {cd : Int32} {I : Nat → Int32} {F : Nat → Nat → Int32} {L : Nat → Nat}  (hm : hmR tn tf nl l0 lf lt tz tv ne en ef et ep ng D pr gn gc ld ll lc nw nb ns bd bl sd sl td tl fd st so ca cs cb cd I F L) : mCn (hPay l0 lf lt nl en ef et ep ne (mLv F L) pr D nw) (D 8) ng 0 = mCn (mPay F nl ne L (I 24)) (F 17) ng 0 := by
  obtain ⟨hT, hL, hE, hG, hP, hD, hN, hB, hC⟩ := hm
  rw [hN.2]
  exact mCn_c2 ng 0 (fun j _ hj => ⟨pay_eq (rG_al hL hE hG) hP (rG_ow hG).1 nw (by omega), (hG.2.2.1 j (by omega)).2.2.2.2⟩)
theorem la_dayN {tn : Nat} {tf : Nat → Int32} {nl : Nat} {l0 : Nat → Int32} {lf : Nat → Int32} {lt : Nat → Int32} {tz : Nat → Nat} {tv : Nat → Nat → Int32} {ne : Nat} {en : Nat → Int32} {ef : Nat → Int32} {et : Nat → Int32} {ep : Nat → Int32} {ng : Nat} {D : Nat → Nat → Int32} {pr : Nat → Int32} {gn : Nat} {gc : Int32} {ld : Nat → Int32} {ll : Nat → Int32} {lc : Nat → Int32} {nw : Nat} {nb : Nat} {ns : Nat} {bd : Nat → Int32} {bl : Nat → Int32} {sd : Nat → Int32} {sl : Nat → Int32} {td : Int32} {tl : Int32} {fd : Int32} {st : Int32} {so : Nat → Option Nat} {ca : Int32} {cs : Int32} {cb : Int32} {cd : Int32} {I : Nat → Int32} {F : Nat → Nat → Int32} {L : Nat → Nat} (hnw : 500 ≤ nw) (hm : hmR tn tf nl l0 lf lt tz tv ne en ef et ep ng D pr gn gc ld ll lc nw nb ns bd bl sd sl td tl fd st so ca cs cb cd I F L) : (-1 = (mDay I F nl ne L ng gn).1) ∧ hmR tn tf nl l0 lf lt tz tv ne en ef et ep ng D pr gn gc ld ll lc nw nb ns bd bl sd sl td tl fd st so ca cs cb cd ((mDay I F nl ne L ng gn).2.1) ((mDay I F nl ne L ng gn).2.2) L := by
  obtain ⟨hT, hL, hE, hG, hP, hD, hN, hB, hC⟩ := hm
  have e : mDay I F nl ne L ng gn = (-1, upd I 0 0, F) := by
    unfold mDay
    rw [if_pos (by rw [hN.2, show nw = 500 by have := hN.1; omega]; rfl)]
  rw [e]
  exact ⟨rfl, hT, hL, hE, hG, hP, hD, hN, hB, hC⟩
theorem la_dayF {tn : Nat} {tf : Nat → Int32} {nl : Nat} {l0 : Nat → Int32} {lf : Nat → Int32} {lt : Nat → Int32} {tz : Nat → Nat} {tv : Nat → Nat → Int32} {ne : Nat} {en : Nat → Int32} {ef : Nat → Int32} {et : Nat → Int32} {ep : Nat → Int32} {ng : Nat} {D : Nat → Nat → Int32} {pr : Nat → Int32} {gn : Nat} {gc : Int32} {ld : Nat → Int32} {ll : Nat → Int32} {lc : Nat → Int32} {nw : Nat} {nb : Nat} {ns : Nat} {bd : Nat → Int32} {bl : Nat → Int32} {sd : Nat → Int32} {sl : Nat → Int32} {td : Int32} {tl : Int32} {fd : Int32} {st : Int32} {so : Nat → Option Nat} {ca : Int32} {cs : Int32} {cb : Int32} {cd : Int32} {I : Nat → Int32} {F : Nat → Nat → Int32} {L : Nat → Nat} (hnw : nw < 500) (e29 : ¬ gn + (mCn (hPay l0 lf lt nl en ef et ep ne (mLv F L) pr D nw) (D 8) ng 0) ≤ 20000) (hm : hmR tn tf nl l0 lf lt tz tv ne en ef et ep ng D pr gn gc ld ll lc nw nb ns bd bl sd sl td tl fd st so ca cs cb cd I F L) : (-1 = (mDay I F nl ne L ng gn).1) ∧ hmR tn tf nl l0 lf lt tz tv ne en ef et ep ng D pr gn gc ld ll lc nw nb ns bd bl sd sl td tl fd st so ca cs cb cd ((mDay I F nl ne L ng gn).2.1) ((mDay I F nl ne L ng gn).2.2) L := by
  obtain ⟨hT, hL, hE, hG, hP, hD, hN, hB, hC⟩ := hm
  rw [la_cn ⟨hT, hL, hE, hG, hP, hD, hN, hB, hC⟩] at e29
  have e : mDay I F nl ne L ng gn = (-1, upd I 0 0, F) := by
    unfold mDay
    rw [if_neg (fun z => by rw [hN.2] at z; have := nI_inj2 (b := 500) z (by omega) (by decide); omega), if_neg e29]
  rw [e]
  exact ⟨rfl, hT, hL, hE, hG, hP, hD, hN, hB, hC⟩
theorem la_day {tn : Nat} {tf : Nat → Int32} {nl : Nat} {l0 : Nat → Int32} {lf : Nat → Int32} {lt : Nat → Int32} {tz : Nat → Nat} {tv : Nat → Nat → Int32} {ne : Nat} {en : Nat → Int32} {ef : Nat → Int32} {et : Nat → Int32} {ep : Nat → Int32} {ng : Nat} {D : Nat → Nat → Int32} {pr : Nat → Int32} {gn : Nat} {gc : Int32} {ld : Nat → Int32} {ll : Nat → Int32} {lc : Nat → Int32} {nw : Nat} {nb : Nat} {ns : Nat} {bd : Nat → Int32} {bl : Nat → Int32} {sd : Nat → Int32} {sl : Nat → Int32} {td : Int32} {tl : Int32} {fd : Int32} {st : Int32} {so : Nat → Option Nat} {ca : Int32} {cs : Int32} {cb : Int32} {cd : Int32} {I : Nat → Int32} {F : Nat → Nat → Int32} {L : Nat → Nat} (py : Nat → Int32) (a1 a2 a3 : Nat → Int32) (D2 : Nat → Nat → Int32) (hnw : nw < 500) (e29 : gn + (mCn (hPay l0 lf lt nl en ef et ep ne (mLv F L) pr D nw) (D 8) ng 0) ≤ 20000) (q1 : ∀ j, ¬ j = 8 → D2 j = D j) (q2 : ∀ j, j < ng → D2 8 j = (mBk (plF (hPay l0 lf lt nl en ef et ep ne (mLv F L) pr D nw) ng py) (nI nw) ng 0 (D 8, ld, ll, lc, gn, gc)).1 j) (q3 : ldR (mBk (plF (hPay l0 lf lt nl en ef et ep ne (mLv F L) pr D nw) ng py) (nI nw) ng 0 (D 8, ld, ll, lc, gn, gc)) a1 a2 a3) (hm : hmR tn tf nl l0 lf lt tz tv ne en ef et ep ng D pr gn gc ld ll lc nw nb ns bd bl sd sl td tl fd st so ca cs cb cd I F L) : (nI (mCn (hPay l0 lf lt nl en ef et ep ne (mLv F L) pr D nw) (D 8) ng 0) = (mDay I F nl ne L ng gn).1 ∧ (mBk (plF (hPay l0 lf lt nl en ef et ep ne (mLv F L) pr D nw) ng py) (nI nw) ng 0 (D 8, ld, ll, lc, gn, gc)).2.2.2.2.1 = gn + mCn (plF (hPay l0 lf lt nl en ef et ep ne (mLv F L) pr D nw) ng py) (D 8) ng 0) ∧ hmR tn tf nl l0 lf lt tz tv ne en ef et ep ng D2 pr ((mBk (plF (hPay l0 lf lt nl en ef et ep ne (mLv F L) pr D nw) ng py) (nI nw) ng 0 (D 8, ld, ll, lc, gn, gc)).2.2.2.2.1) ((mBk (plF (hPay l0 lf lt nl en ef et ep ne (mLv F L) pr D nw) ng py) (nI nw) ng 0 (D 8, ld, ll, lc, gn, gc)).2.2.2.2.2) a1 a2 a3 (nw + 1) nb ns bd bl sd sl td tl fd st so ca cs cb cd ((mDay I F nl ne L ng gn).2.1) ((mDay I F nl ne L ng gn).2.2) L := by
  obtain ⟨hT, hL, hE, hG, hP, hD, hN, hB, hC⟩ := hm
  have hcn := la_cn ⟨hT, hL, hE, hG, hP, hD, hN, hB, hC⟩
  have hng := hG.1
  have e9 := e29
  rw [hcn] at e29
  have e : mDay I F nl ne L ng gn = (nI (mCn (mPay F nl ne L (I 24)) (F 17) ng 0),
      upd (upd (upd (upd I 0 0) 28 (nI (mBk (mPay F nl ne L (I 24)) (I 24) ng 0 (F 17, F 20, F 21, F 22, gn, I 29)).2.2.2.2.1)) 29 (mBk (mPay F nl ne L (I 24)) (I 24) ng 0 (F 17, F 20, F 21, F 22, gn, I 29)).2.2.2.2.2) 24 (nI (nw + 1)),
      va_up (va_up (va_up (va_up F 17 (mBk (mPay F nl ne L (I 24)) (I 24) ng 0 (F 17, F 20, F 21, F 22, gn, I 29)).1) 20 (mBk (mPay F nl ne L (I 24)) (I 24) ng 0 (F 17, F 20, F 21, F 22, gn, I 29)).2.1) 21 (mBk (mPay F nl ne L (I 24)) (I 24) ng 0 (F 17, F 20, F 21, F 22, gn, I 29)).2.2.1) 22 (mBk (mPay F nl ne L (I 24)) (I 24) ng 0 (F 17, F 20, F 21, F 22, gn, I 29)).2.2.2.1) := by
    unfold mDay
    rw [if_neg (fun z => by rw [hN.2] at z; have := nI_inj2 (b := 500) z (by omega) (by decide); omega), if_pos e29, show I 24 + 1 = nI (nw + 1) from by rw [hN.2, nI_1]]
  have hbk : bkR ng (mBk (plF (hPay l0 lf lt nl en ef et ep ne (mLv F L) pr D nw) ng py) (nI nw) ng 0 (D 8, ld, ll, lc, gn, gc)) (mBk (mPay F nl ne L (I 24)) (I 24) ng 0 (F 17, F 20, F 21, F 22, gn, I 29)) := by
    rw [hN.2, hD.2.2.1]
    refine mBk_R (nI nw) (fun j hj => ?_) ng 0 _ _ (Nat.zero_add _) ⟨fun j hj => (hG.2.2.1 j hj).2.2.2.2, rfl, rfl, hD.2.2.2⟩
    show (if j < ng then _ else py j) = _
    rw [if_pos hj]
    exact pay_eq (rG_al hL hE hG) hP (rG_ow hG).1 nw hj
  have hpl : mCn (plF (hPay l0 lf lt nl en ef et ep ne (mLv F L) pr D nw) ng py) (D 8) ng 0 = mCn (hPay l0 lf lt nl en ef et ep ne (mLv F L) pr D nw) (D 8) ng 0 := mCn_c2 ng 0 (fun j _ hj => ⟨if_pos (show j < ng by omega), rfl⟩)
  have hct : (mBk (plF (hPay l0 lf lt nl en ef et ep ne (mLv F L) pr D nw) ng py) (nI nw) ng 0 (D 8, ld, ll, lc, gn, gc)).2.2.2.2.1 = gn + mCn (plF (hPay l0 lf lt nl en ef et ep ne (mLv F L) pr D nw) ng py) (D 8) ng 0 := mBk_ct (nI nw) ng 0 _
  rw [e]
  obtain ⟨b1, b2, b3, b4⟩ := hbk
  refine ⟨⟨by rw [hcn], hct⟩, hT, hL, hE, ⟨hG.1, hG.2.1, fun k hk => ?_, fun k hk => ?_, fun k h1 h2 => ?_⟩, hP, ⟨by rw [hct, hpl]; exact e9, by rw [b2]; rfl, by rw [b3]; rfl, fun j hj => ?_⟩, ⟨by omega, rfl⟩, hB, hC⟩
  · obtain ⟨⟨a0, a1, a2, a3, a4⟩, a5, a6, a7, a8⟩ := hG.2.2.1 k hk
    rw [q1 0 (by decide), q1 1 (by decide), q1 2 (by decide), q1 3 (by decide), q1 4 (by decide), q1 5 (by decide), q1 6 (by decide), q1 7 (by decide), q2 k hk, b1 k hk]
    exact ⟨⟨a0, a1, a2, a3, a4⟩, a5, a6, a7, rfl⟩
  · rw [q1 0 (by decide), q1 2 (by decide), q1 3 (by decide), q1 5 (by decide), q1 6 (by decide), q1 7 (by decide)]
    exact hG.2.2.2.1 k hk
  · obtain ⟨y1, y2, y3, y4⟩ := hG.2.2.2.2 k h1 h2
    refine ⟨y1, y2, ?_, y4⟩
    show (mBk (mPay F nl ne L (I 24)) (I 24) ng 0 (F 17, F 20, F 21, F 22, gn, I 29)).1 k = 0
    rw [mBk_hi _ ng 0 _ k (by omega)]
    exact y3
  · obtain ⟨z1, z2, z3⟩ := q3 j hj
    obtain ⟨w1, w2, w3⟩ := b4 j (by rw [← b2]; exact hj)
    exact ⟨z1.trans w1, z2.trans w2, z3.trans w3⟩
theorem mVok_1 {nl k : Nat} {d lq : Int32} (hk : k < nl) (hn : nl ≤ 20) (hd : ¬ mIn d 0 1000 = 0) (hl : ¬ mIn lq 0 1000 = 0) : mVok (nI nl) (nI k) d lq = 1 := by
  unfold mVok
  rw [if_neg (mIn_kn hk (by omega)), if_neg hd, if_neg hl]
theorem mVok_0 {nl : Nat} {x d lq : Int32} (h : mIn x 0 (nI nl - 1) = 0 ∨ mIn d 0 1000 = 0 ∨ mIn lq 0 1000 = 0) : mVok (nI nl) x d lq = 0 := by
  unfold mVok
  by_cases c1 : mIn x 0 (nI nl - 1) = 0
  · rw [if_pos c1]
  rw [if_neg c1]
  by_cases c2 : mIn d 0 1000 = 0
  · rw [if_pos c2]
  rw [if_neg c2, if_pos ((h.resolve_left c1).resolve_left c2)]
