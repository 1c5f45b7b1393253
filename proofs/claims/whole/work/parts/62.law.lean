/-! ===== the law: its world, and what holds between two calls ===== -/
abbrev lW (G : gG) (ad md : Nat → Nat) (ou : Nat) (ng : Nat) (nw : Nat) (tn : Nat) (nl : Nat) (ne : Nat) (gn : Nat) (nb : Nat) (ns : Nat) (l1 : Nat) (l2 : Nat) (l3 : Nat) (tf : Nat → Int32) (l0 : Nat → Int32) (lf : Nat → Int32) (lt : Nat → Int32) (en : Nat → Int32) (ef : Nat → Int32) (et : Nat → Int32) (ep : Nat → Int32) (pr : Nat → Int32) (py : Nat → Int32) (ld : Nat → Int32) (ll : Nat → Int32) (lc : Nat → Int32) (bd : Nat → Int32) (bl : Nat → Int32) (sd : Nat → Int32) (sl : Nat → Int32) (ag : Nat → Int32) (z : RS) (la : Nat → Nat) (tk : Nat → Nat) (tz : Nat → Nat) (lo : Nat → Nat) (wt : Nat → Nat) (tv : Nat → Nat → Int32) (D : Nat → Nat → Int32) (gc : Int32) (td : Int32) (tl : Int32) (fd : Int32) (st : Int32) (ca : Int32) (cs : Int32) (cb : Int32) (cd : Int32) (so : Nat → Option Nat) (bo : Nat → Option Nat) (rf : Nat → Option Nat) (of : Nat → Int64) (I : Nat → Int32) (F : Nat → Nat → Int32) (rw : Nat) (gd : Int64) (gl : Int64) : va_W := [((ad 0), .inr (9, [.ref (ad 1), .ref (ad 3), .ref (ad 8), .ref (ad 12), .ref (ad 13), .ref (ad 17), .ref (ad 18), .ref (ad 19), .ref (ad 20), .ref (ad 21), .ref (ad 25), .ref (ad 37), .int (nI ng), .int (nI nw)])), ((ad 1), .inr (8, [.ref (ad 2), .int (nI tn)])), ((ad 2), .inl (G.2.2 1, 120, .inl tf)), ((ad 3), .inr (5, [.ref (ad 4), .ref (ad 5), .ref (ad 6), .ref (ad 7), .int (nI z.1)])), ((ad 4), .inl (G.2.2 2, 9, .inr (.inl z.2.1))), ((ad 5), .inl (G.2.2 2, 9, .inr (.inl z.2.2.1))), ((ad 6), .inl (G.2.2 1, 9, .inl z.2.2.2.1)), ((ad 7), .inl (G.2.2 1, 9, .inl z.2.2.2.2)), ((ad 8), .inr (6, [.ref (ad 9), .ref (ad 10), .ref (ad 11), .int (nI nl)])), ((ad 9), .inl (G.2.2 1, 20, .inl l0)), ((ad 10), .inl (G.2.2 1, 20, .inl lf)), ((ad 11), .inl (G.2.2 1, 20, .inl lt)), ((ad 12), .inl (G.2.2 4, 20, .inr (.inr (.inr (.inr (oA nl la)))))), ((ad 13), .inr (6, [.ref (ad 14), .ref (ad 15), .ref (ad 16), .int (nI ne)])), ((ad 14), .inl (G.2.2 1, 60, .inl en)), ((ad 15), .inl (G.2.2 1, 60, .inl ef)), ((ad 16), .inl (G.2.2 1, 60, .inl et)), ((ad 17), .inl (G.2.2 1, 60, .inl ep)), ((ad 18), .inl (G.2.2 5, 100, .inr (.inr (.inr (.inr (oA ng lo)))))), ((ad 19), .inl (G.2.2 1, 6, .inl pr)), ((ad 20), .inl (G.2.2 1, 100, .inl py)), ((ad 21), .inr (2, [.ref l1, .ref l2, .ref l3, .int (nI gn), .int gc])), (l1, .inl (G.2.2 1, (lcap gn), .inl ld)), (l2, .inl (G.2.2 1, (lcap gn), .inl ll)), (l3, .inl (G.2.2 1, (lcap gn), .inl lc)), ((ad 25), .inr (4, [.ref (ad 26), .ref (ad 29), .ref (ad 32), .ref (ad 33), .ref (ad 34), .ref (ad 35), .ref (ad 36), .int td, .int tl, .int fd, .int st])), ((ad 26), .inr (7, [.ref (ad 27), .ref (ad 28), .int (nI nb)])), ((ad 27), .inl (G.2.2 1, 20, .inl bd)), ((ad 28), .inl (G.2.2 1, 20, .inl bl)), ((ad 29), .inr (7, [.ref (ad 30), .ref (ad 31), .int (nI ns)])), ((ad 30), .inl (G.2.2 1, 20, .inl sd)), ((ad 31), .inl (G.2.2 1, 20, .inl sl)), ((ad 32), .inl (G.2.2 1, 20, .inl (oF so))), ((ad 33), .inl (G.2.2 1, 20, .inl (oF bo))), ((ad 34), .inl (G.2.2 1, 20, .inl ag)), ((ad 35), .inl (G.2.2 1, 20, .inl (oF rf))), ((ad 36), .inl (G.2.2 1, 20, .inl (nF wt))), ((ad 37), .inr (0, [.int ca, .int cs, .int cb, .int cd])), ((md 0), .inr (10, [.int (I 0), .ref (md 1), .ref (md 2), .ref (md 3), .ref (md 4), .ref (md 5), .ref (md 6), .ref (md 7), .ref (md 8), .ref (md 9), .ref (md 10), .ref (md 11), .ref (md 12), .ref (md 13), .ref (md 14), .ref (md 15), .ref (md 16), .ref (md 17), .ref (md 18), .ref (md 19), .ref (md 20), .ref (md 21), .ref (md 22), .int (I 23), .int (I 24), .int (I 25), .int (I 26), .int (I 27), .int (I 28), .int (I 29), .ref rw, .int (I 31), .int (I 32), .int (I 33), .int (I 34), .int (I 35), .long gd, .long gl, .ref (md 38), .ref (md 39), .ref (md 40), .ref (md 41), .ref (md 42), .ref (md 43), .int (I 44), .int (I 45), .int (I 46), .int (I 47), .int (I 48), .int (I 49)])), ((md 1), .inl (G.2.2 0, 120, .inl (F 1))), ((md 2), .inl (G.2.2 0, 2400, .inl (F 2))), ((md 3), .inl (G.2.2 1, 20, .inl (F 3))), ((md 4), .inl (G.2.2 1, 20, .inl (F 4))), ((md 5), .inl (G.2.2 1, 20, .inl (F 5))), ((md 6), .inl (G.2.2 1, 60, .inl (F 6))), ((md 7), .inl (G.2.2 1, 60, .inl (F 7))), ((md 8), .inl (G.2.2 1, 60, .inl (F 8))), ((md 9), .inl (G.2.2 1, 60, .inl (F 9))), ((md 10), .inl (G.2.2 1, 100, .inl (F 10))), ((md 11), .inl (G.2.2 1, 100, .inl (F 11))), ((md 12), .inl (G.2.2 1, 100, .inl (F 12))), ((md 13), .inl (G.2.2 1, 100, .inl (F 13))), ((md 14), .inl (G.2.2 1, 100, .inl (F 14))), ((md 15), .inl (G.2.2 1, 100, .inl (F 15))), ((md 16), .inl (G.2.2 1, 100, .inl (F 16))), ((md 17), .inl (G.2.2 1, 100, .inl (F 17))), ((md 18), .inl (G.2.2 1, 100, .inl (F 18))), ((md 19), .inl (G.2.2 1, 6, .inl (F 19))), ((md 20), .inl (G.2.2 1, 20000, .inl (F 20))), ((md 21), .inl (G.2.2 1, 20000, .inl (F 21))), ((md 22), .inl (G.2.2 1, 20000, .inl (F 22))), ((md 38), .inl (G.2.2 1, 40, .inl (F 38))), ((md 39), .inl (G.2.2 1, 40, .inl (F 39))), ((md 40), .inl (G.2.2 1, 2, .inl (F 40))), ((md 41), .inl (G.2.2 1, 20, .inl (F 41))), ((md 42), .inl (G.2.2 3, 20, .inl (F 42))), ((md 43), .inl (G.2.2 3, 20, .inl (F 43))), (ou, .inl (G.2.2 2, 1, .inr (.inl of)))] ++ (plA nl la tk ++ (plT G nl tk tz tv ++ (plG ng lo D)))
theorem ni_k (i : Nat) (k : Nat) : nI i + OfNat.ofNat k = nI (i + k) := by
  rw [show (OfNat.ofNat k : Int32) = nI k from rfl, nI_add]
def rT (tn : Nat) (tf : Nat → Int32) (i : Int32) (f : Nat → Int32) : Prop := tn ≤ 120 ∧ i = nI tn ∧ tpR tf f tn ∧ ∀ j, j < tn → f j = (f j).toInt8.toInt32
def rL (nl : Nat) (l0 lf lt : Nat → Int32) (tz : Nat → Nat) (tv : Nat → Nat → Int32) (i : Int32) (F : Nat → Nat → Int32) (L : Nat → Nat) : Prop :=
  nl ≤ 20 ∧ i = nI nl ∧ (∀ k, k < nl → l0 k = 0 ∧ lf k = F 4 k ∧ lt k = F 5 k) ∧ ∀ k, k < nl → F 3 k = nI (L k) ∧ ∃ f, txR (F 2) (120 * k) (L k) f ∧ tFf f (L k) (L k) 0 1 0 0 = -1 ∧ tz k = (tkF f (L k) 0 0 0 (fun _ => 0)).2 ∧ ∀ j, j < tz k → tv k j = (tkF f (L k) 0 0 0 (fun _ => 0)).1 j
theorem pGo_q {t : Nat → Int32} {a n : Nat} {gd gl : Int64} {q : Nat} (h : pGo t a n gd gl = .inl q) (hn : n ≤ 120) : q ≤ n := by
  have hB := pS_B (t := t) (a := a) (gd := gd) (gl := gl) (n := n) (by omega) (8 + 1) 0 (Nat.zero_le _) (Or.inr (by decide))
  unfold pGo at h
  cases e : pS t a n gd gl (8 + 1) 0 with
  | inl x =>
    rw [e] at h hB
    have : x = q := by simpa using h
    rw [← this]; exact hB
  | inr z =>
    rw [e] at h hB
    have hB : 0 ≤ z.2 ∧ z.2 ≤ n := hB
    have h : (if lkV t a n (lk t a n z.2) = -1 then (.inr z.1 : Nat ⊕ Int64) else .inl (lk t a n z.2)) = .inl q := h
    split at h
    · cases h
    · have := (lk_ge t a n z.2 hB.2).2
      have e2 : lk t a n z.2 = q := by simpa using h
      omega
theorem pGo_ok {t f : Nat → Int32} {a n : Nat} (h : txR t a n f) (h1 : tFf f n n 0 1 0 0 = -1) (x y : Int64) : ∃ v, pGo t a n x y = .inr v := by
  have f1 := fault_eq h x y
  rw [h1] at f1
  cases hq : pGo t a n x y with
  | inl q =>
    rw [hq] at f1
    have hq2 := pGo_q hq h.1
    have := h.1
    exact absurd f1.symm (nI_ne_m1 (by omega))
  | inr v => exact ⟨v, rfl⟩
theorem lwB_bdd {x : Int32} (h : lwB x) : bdd x.toInt64 := by
  unfold lwB at h
  unfold bdd
  rw [Int32.toInt_toInt64]
  omega
theorem rL_ls {nl : Nat} {l0 lf lt : Nat → Int32} {tz : Nat → Nat} {tv : Nat → Nat → Int32} {i : Int32} {F : Nat → Nat → Int32} {L : Nat → Nat} (h : rL nl l0 lf lt tz tv i F L) : mLs F nl L := fun k hk => by
  obtain ⟨h1, f, h2, h3, -, -⟩ := h.2.2.2 k hk
  exact ⟨h1, h2.1, pGo_ok h2 h3⟩
theorem rL_v {nl : Nat} {l0 lf lt : Nat → Int32} {tz : Nat → Nat} {tv : Nat → Nat → Int32} {i : Int32} {F : Nat → Nat → Int32} {L : Nat → Nat} (h : rL nl l0 lf lt tz tv i F L) : ∀ k, k < nl → tz k < 2 ^ 30 ∧ ∀ dd ll, lwB dd → lwB ll → ∀ S P sg pg, rSum (rkV (tv k) (tz k) dd ll S P sg pg) = mLv F L k dd ll := fun k hk => by
  obtain ⟨h1, f, h2, h3, h4, h5⟩ := h.2.2.2 k hk
  have hle := tkF_le f (L k) 0 0 0 (fun _ => 0)
  have := h2.1
  refine ⟨by rw [h4]; omega, fun dd ll hd hl S P sg pg => ?_⟩
  obtain ⟨v, hv⟩ := pGo_ok h2 h3 dd.toInt64 ll.toInt64
  rw [h4] at h5 ⊢
  rw [worth_eq h2 (lwB_bdd hd) (lwB_bdd hl) hv (tv k) h5 S P sg pg]
  unfold mLv
  rw [hv]
  rfl
def rE (ne : Nat) (en ef et ep : Nat → Int32) (i : Int32) (F : Nat → Nat → Int32) : Prop :=
  ne ≤ 60 ∧ i = nI ne ∧ (∀ j, j < ne → en j = F 6 j ∧ ef j = F 8 j ∧ et j = F 9 j ∧ ep j = F 7 j ∧ 0 ≤ (F 8 j).toInt) ∧ ∀ j, j < ne → -200 ≤ (ep j).toInt ∧ (ep j).toInt ≤ 200
def rG (ng : Nat) (D : Nat → Nat → Int32) (i : Int32) (F : Nat → Nat → Int32) : Prop :=
  ng ≤ 100 ∧ i = nI ng ∧ (∀ k, k < ng → (D 0 k = F 10 k ∧ D 1 k = F 11 k ∧ D 2 k = F 12 k ∧ D 3 k = F 13 k ∧ D 4 k = F 14 k) ∧ D 5 k = F 15 k ∧ D 6 k = F 16 k ∧ D 7 k = F 18 k ∧ D 8 k = F 17 k) ∧
  (∀ k, k < ng → (∃ x, x < 6 ∧ D 0 k = nI x) ∧ (∃ x, x ≤ 99 ∧ D 2 k = nI x) ∧ (∃ x, x ≤ 60 ∧ D 3 k = nI x) ∧ (∃ x, x ≤ 99 ∧ D 5 k = nI x) ∧ (∃ x, x ≤ 90 ∧ D 6 k = nI x) ∧ ∃ x, x ≤ 99 ∧ D 7 k = nI x) ∧
  ∀ k, ng ≤ k → k < 100 → F 15 k = 0 ∧ F 16 k = 0 ∧ F 17 k = 0 ∧ F 18 k = 0
def rP (pr f : Nat → Int32) : Prop := ∀ j, j < 6 → pr j = f j
def rD (gn : Nat) (gc : Int32) (ld ll lc : Nat → Int32) (i k : Int32) (F : Nat → Nat → Int32) : Prop := gn ≤ 20000 ∧ i = nI gn ∧ k = gc ∧ ∀ j, j < gn → ld j = F 20 j ∧ ll j = F 21 j ∧ lc j = F 22 j
def rN (nw : Nat) (i : Int32) : Prop := nw ≤ 500 ∧ i = nI nw
def rB (nb ns : Nat) (bd bl sd sl : Nat → Int32) (td tl fd st : Int32) (so : Nat → Option Nat) (i k : Int32) (F : Nat → Nat → Int32) : Prop :=
  (nb ≤ 20 ∧ ns ≤ 20 ∧ F 40 0 = nI nb ∧ F 40 1 = nI ns) ∧ (∀ j, j < nb → bd j = F 38 j ∧ bl j = F 39 j) ∧ (∀ j, j < ns → sd j = F 38 (20 + j) ∧ sl j = F 39 (20 + j)) ∧ (td = i ∧ tl = k) ∧ (∃ h t u, F 41 = oF h ∧ F 43 = bF t ∧ F 42 = bF u) ∧
  (st = 0 ∨ st = 1 ∧ fd = nI (kX (hAg td tl bd bl sd sl) 0 nb ns (fun _ => false)) ∧ ∀ q, q < nb → so q = cX (hAg td tl bd bl sd sl) nb ns q)
def rC (ca cs cb cd i46 i47 i48 i49 : Int32) : Prop := i46 = ca ∧ i47 = cs ∧ i48 = cb ∧ i49 = cd ∧ 0 ≤ ca.toInt ∧ ca.toInt ≤ 100
def hmR (tn : Nat) (tf : Nat → Int32) (nl : Nat) (l0 : Nat → Int32) (lf : Nat → Int32) (lt : Nat → Int32) (tz : Nat → Nat) (tv : Nat → Nat → Int32) (ne : Nat) (en : Nat → Int32) (ef : Nat → Int32) (et : Nat → Int32) (ep : Nat → Int32) (ng : Nat) (D : Nat → Nat → Int32) (pr : Nat → Int32) (gn : Nat) (gc : Int32) (ld : Nat → Int32) (ll : Nat → Int32) (lc : Nat → Int32) (nw : Nat) (nb : Nat) (ns : Nat) (bd : Nat → Int32) (bl : Nat → Int32) (sd : Nat → Int32) (sl : Nat → Int32) (td : Int32) (tl : Int32) (fd : Int32) (st : Int32) (so : Nat → Option Nat) (ca : Int32) (cs : Int32) (cb : Int32) (cd : Int32) (I : Nat → Int32) (F : Nat → Nat → Int32) (L : Nat → Nat) : Prop :=
  rT tn tf (I 23) (F 1) ∧ rL nl l0 lf lt tz tv (I 25) F L ∧ rE ne en ef et ep (I 26) F ∧ rG ng D (I 27) F ∧ rP pr (F 19) ∧ rD gn gc ld ll lc (I 28) (I 29) F ∧ rN nw (I 24) ∧ rB nb ns bd bl sd sl td tl fd st so (I 44) (I 45) F ∧ rC ca cs cb cd (I 46) (I 47) (I 48) (I 49)
/-- between two calls: j calls are done -/
def lwI (G : gG) (ad md : Nat → Nat) (ou j : Nat) (W9 : va_W) (cells slots : Nat) : Prop := ∃ (ng : Nat) (nw : Nat) (tn : Nat) (nl : Nat) (ne : Nat) (gn : Nat) (nb : Nat) (ns : Nat) (l1 : Nat) (l2 : Nat) (l3 : Nat) (tf : Nat → Int32) (l0 : Nat → Int32) (lf : Nat → Int32) (lt : Nat → Int32) (en : Nat → Int32) (ef : Nat → Int32) (et : Nat → Int32) (ep : Nat → Int32) (pr : Nat → Int32) (py : Nat → Int32) (ld : Nat → Int32) (ll : Nat → Int32) (lc : Nat → Int32) (bd : Nat → Int32) (bl : Nat → Int32) (sd : Nat → Int32) (sl : Nat → Int32) (ag : Nat → Int32) (z : RS) (la : Nat → Nat) (tk : Nat → Nat) (tz : Nat → Nat) (lo : Nat → Nat) (wt : Nat → Nat) (tv : Nat → Nat → Int32) (D : Nat → Nat → Int32) (gc : Int32) (td : Int32) (tl : Int32) (fd : Int32) (st : Int32) (ca : Int32) (cs : Int32) (cb : Int32) (cd : Int32) (so : Nat → Option Nat) (bo : Nat → Option Nat) (rf : Nat → Option Nat) (of : Nat → Int64) (I : Nat → Int32) (F : Nat → Nat → Int32) (rw : Nat) (gd : Int64) (gl : Int64) (L : Nat → Nat), W9 = lW G ad md ou ng nw tn nl ne gn nb ns l1 l2 l3 tf l0 lf lt en ef et ep pr py ld ll lc bd bl sd sl ag z la tk tz lo wt tv D gc td tl fd st ca cs cb cd so bo rf of I F rw gd gl ∧ hmR tn tf nl l0 lf lt tz tv ne en ef et ep ng D pr gn gc ld ll lc nw nb ns bd bl sd sl td tl fd st so ca cs cb cd I F L ∧ cells ≤ 200 + 10 * j + ltC gn ∧ slots ≤ 100000 + 300 * j + ltS gn
/-- the numbers that the relation speaks of -/
def jm (I J : Nat → Int32) : Prop := ∀ k, (23 ≤ k ∧ k ≤ 29) ∨ (44 ≤ k ∧ k ≤ 49) → J k = I k
theorem jm_jk {I J : Nat → Int32} (h : jk I J) : jm I J := fun k hk => h k (by omega)
theorem jm_0 (I : Nat → Int32) (x : Int32) : jm I (upd I 0 x) := fun k hk => pk_un (by omega)
theorem jm_tr {I J K : Nat → Int32} (h1 : jm I J) (h2 : jm J K) : jm I K := fun k hk => (h2 k hk).trans (h1 k hk)
theorem jm_th {I J : Nat → Int32} {x : Int32} (h : jk (upd I 0 x) J) : jm I J := jm_tr (jm_0 I x) (jm_jk h)
theorem hm_jm {tn : Nat} {tf : Nat → Int32} {nl : Nat} {l0 : Nat → Int32} {lf : Nat → Int32} {lt : Nat → Int32} {tz : Nat → Nat} {tv : Nat → Nat → Int32} {ne : Nat} {en : Nat → Int32} {ef : Nat → Int32} {et : Nat → Int32} {ep : Nat → Int32} {ng : Nat} {D : Nat → Nat → Int32} {pr : Nat → Int32} {gn : Nat} {gc : Int32} {ld : Nat → Int32} {ll : Nat → Int32} {lc : Nat → Int32} {nw : Nat} {nb : Nat} {ns : Nat} {bd : Nat → Int32} {bl : Nat → Int32} {sd : Nat → Int32} {sl : Nat → Int32} {td : Int32} {tl : Int32} {fd : Int32} {st : Int32} {so : Nat → Option Nat} {ca : Int32} {cs : Int32} {cb : Int32} {cd : Int32} {I : Nat → Int32} {F : Nat → Nat → Int32} {L : Nat → Nat} {I2 : Nat → Int32} (hj : jm I I2) (h : hmR tn tf nl l0 lf lt tz tv ne en ef et ep ng D pr gn gc ld ll lc nw nb ns bd bl sd sl td tl fd st so ca cs cb cd I F L) : hmR tn tf nl l0 lf lt tz tv ne en ef et ep ng D pr gn gc ld ll lc nw nb ns bd bl sd sl td tl fd st so ca cs cb cd I2 F L := by
  unfold hmR at h ⊢
  rw [hj 23 (by decide), hj 24 (by decide), hj 25 (by decide), hj 26 (by decide), hj 27 (by decide), hj 28 (by decide), hj 29 (by decide), hj 44 (by decide), hj 45 (by decide), hj 46 (by decide), hj 47 (by decide), hj 48 (by decide), hj 49 (by decide)]
  exact h
theorem rL_S {nl ne ng : Nat} {l0 lf lt : Nat → Int32} {tz : Nat → Nat} {tv : Nat → Nat → Int32} {i25 i26 i27 : Int32} {F : Nat → Nat → Int32} {L : Nat → Nat} {en ef et ep : Nat → Int32} {D : Nat → Nat → Int32} (h : rL nl l0 lf lt tz tv i25 F L) (h2 : rE ne en ef et ep i26 F) (h3 : rG ng D i27 F) : hSt nl ne ng tz tv ep (mLv F L) := ⟨h.1, h2.1, h3.1, rL_v h, h2.2.2.2⟩
theorem rG_D {ng : Nat} {D : Nat → Nat → Int32} {i : Int32} {F : Nat → Nat → Int32} (h : rG ng D i F) : hDr D ng := by
  intro k hk
  obtain ⟨-, ⟨x2, l2, e2⟩, ⟨x3, l3, e3⟩, ⟨x5, l5, e5⟩, -⟩ := h.2.2.2.1 k hk
  unfold lwB
  rw [e2, e3, e5, nI_toInt (by omega), nI_toInt (by omega), nI_toInt (by omega)]
  omega
theorem rG_al {nl ne ng : Nat} {l0 lf lt : Nat → Int32} {tz : Nat → Nat} {tv : Nat → Nat → Int32} {i25 i26 i27 : Int32} {F : Nat → Nat → Int32} {L : Nat → Nat} {en ef et ep : Nat → Int32} {D : Nat → Nat → Int32} (h : rL nl l0 lf lt tz tv i25 F L) (h2 : rE ne en ef et ep i26 F) (h3 : rG ng D i27 F) : alR D ng l0 lf lt nl en ef et ep ne (mLv F L) F L :=
  ⟨h.1, h2.1, h3.2.2.1, h.2.2.1, h2.2.2.1, fun _ _ _ _ _ _ => rfl, rG_D h3, h2.2.2.2, fun k hk => by obtain ⟨-, -, -, -, ⟨x, l, e⟩, -⟩ := h3.2.2.2.1 k hk; exact ⟨x, l, e⟩⟩
theorem rL_gd {nl ne : Nat} {l0 lf lt : Nat → Int32} {tz : Nat → Nat} {tv : Nat → Nat → Int32} {I : Nat → Int32} {F : Nat → Nat → Int32} {L : Nat → Nat} {en ef et ep : Nat → Int32} (h : rL nl l0 lf lt tz tv (I 25) F L) (h2 : rE ne en ef et ep (I 26) F) : mGd I F nl ne L :=
  ⟨h.2.1, rL_ls h, h.1, h2.2.1, h2.1, fun j hj => by rw [← (h2.2.2.1 j hj).2.2.2.1]; exact h2.2.2.2 j hj⟩
theorem rG_ow {ng : Nat} {D : Nat → Nat → Int32} {i : Int32} {F : Nat → Nat → Int32} (h : rG ng D i F) : (∀ k, k < ng → ∃ x, x < 6 ∧ D 0 k = nI x) ∧ mOw F ng := ⟨fun k hk => (h.2.2.2.1 k hk).1, fun k hk => by obtain ⟨x, l, e⟩ := (h.2.2.2.1 k hk).1; exact ⟨x, l, by rw [← (h.2.2.1 k hk).1.1]; exact e⟩⟩
theorem rG_rc {ng : Nat} {D : Nat → Nat → Int32} {i : Int32} {F : Nat → Nat → Int32} (h : rG ng D i F) : ∃ rd ck : Nat → Nat, hRc D rd ck ng ∧ mRc F rd ck ng := by
  refine ⟨fun k => (D 2 k).toNatClampNeg, fun k => (D 7 k).toNatClampNeg, fun k hk => ?_, fun k hk => ?_⟩
  · obtain ⟨-, ⟨x2, l2, e2⟩, -, -, -, ⟨x7, l7, e7⟩⟩ := h.2.2.2.1 k hk
    show D 2 k = nI (D 2 k).toNatClampNeg ∧ (D 2 k).toNatClampNeg ≤ 99 ∧ D 7 k = nI (D 7 k).toNatClampNeg ∧ (D 7 k).toNatClampNeg ≤ 99
    rw [e2, e7, nI_clamp (by omega), nI_clamp (by omega)]
    exact ⟨rfl, l2, rfl, l7⟩
  · obtain ⟨-, ⟨x2, l2, e2⟩, -, -, -, ⟨x7, l7, e7⟩⟩ := h.2.2.2.1 k hk
    obtain ⟨⟨-, -, a2, -, -⟩, -, -, a7, -⟩ := h.2.2.1 k hk
    show F 12 k = nI (D 2 k).toNatClampNeg ∧ (D 2 k).toNatClampNeg ≤ 99 ∧ F 18 k = nI (D 7 k).toNatClampNeg ∧ (D 7 k).toNatClampNeg ≤ 99
    rw [← a2, ← a7, e2, e7, nI_clamp (by omega), nI_clamp (by omega)]
    exact ⟨rfl, l2, rfl, l7⟩
