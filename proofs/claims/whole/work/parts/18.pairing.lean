/-! ===== ScaleHouse$Pairing: its rows as choices of a row or none ===== -/
def oI (x : Option Nat) : Int32 := match x with | none => -1 | some k => nI k
def oF (f : Nat → Option Nat) : Nat → Int32 := fun j => oI (f j)
def nF (w : Nat → Nat) : Nat → Int32 := fun j => nI (w j)
theorem oI_n : oI none = -1 := rfl
theorem oI_s (k : Nat) : oI (some k) = nI k := rfl
theorem oF_up (f : Nat → Option Nat) (k : Nat) (x : Option Nat) : upd (oF f) k (oI x) = oF (va_up f k x) := by
  funext j; unfold upd oF va_up; split <;> rfl
theorem nF_up (f : Nat → Nat) (k x : Nat) : upd (nF f) k (nI x) = nF (va_up f k x) := by
  funext j; unfold upd nF va_up; split <;> rfl
theorem oF_fl (f : Nat → Option Nat) (n : Nat) : flF (-1) n (oF f) = oF (fun j => if j < n then none else f j) := by
  funext j
  show (if j < n then -1 else oI (f j)) = oI (if j < n then none else f j)
  split <;> rfl
theorem oI_m1 {x : Option Nat} (h : ∀ k, x = some k → k < 2 ^ 31) : oI x = -1 ↔ x = none := by
  cases x with
  | none => simp [oI]
  | some k =>
    have := h k rfl
    constructor
    · intro z
      have z1 : (nI k).toInt = (-1 : Int32).toInt := by rw [show nI k = -1 from z]
      rw [nI_toInt this] at z1
      exact absurd z1 (by show ¬ ((k : Int) = -1); omega)
    · intro z; cases z
/-- bit j of a row of agreements -/
def abit (x : Int32) (j : Nat) : Bool := decide (¬ ((x >>> (nI j &&& 31)) &&& 1) = 0)

abbrev pW (G : gG) (ad : Nat → Nat) (td : Int32) (tl : Int32) (fd : Int32) (st : Int32) (nb : Nat) (ns : Nat) (bd : Nat → Int32) (bl : Nat → Int32) (sd : Nat → Int32) (sl : Nat → Int32) (so : Nat → Option Nat) (bo : Nat → Option Nat) (ag : Nat → Int32) (rf : Nat → Option Nat) (wt : Nat → Nat) : va_W := [((ad 0), .inr (4, [.ref (ad 1), .ref (ad 4), .ref (ad 7), .ref (ad 8), .ref (ad 9), .ref (ad 10), .ref (ad 11), .int td, .int tl, .int fd, .int st])), ((ad 1), .inr (7, [.ref (ad 2), .ref (ad 3), .int (nI nb)])), ((ad 2), .inl (G.2.2 1, 20, .inl bd)), ((ad 3), .inl (G.2.2 1, 20, .inl bl)), ((ad 4), .inr (7, [.ref (ad 5), .ref (ad 6), .int (nI ns)])), ((ad 5), .inl (G.2.2 1, 20, .inl sd)), ((ad 6), .inl (G.2.2 1, 20, .inl sl)), ((ad 7), .inl (G.2.2 1, 20, .inl (oF so))), ((ad 8), .inl (G.2.2 1, 20, .inl (oF bo))), ((ad 9), .inl (G.2.2 1, 20, .inl ag)), ((ad 10), .inl (G.2.2 1, 20, .inl (oF rf))), ((ad 11), .inl (G.2.2 1, 20, .inl (nF wt)))]
def pKept (bo : Nat → Option Nat) (o ff : Nat) : Bool := match bo o with | none => false | some b => decide (b < ff)
set_option maxHeartbeats 4000000 in
set_option maxRecDepth 100000 in
theorem p_isKept (l : Launch) (G : gG) (ad : Nat → Nat) (td tl fd st : Int32) (nb ns : Nat) (bd bl sd sl : Nat → Int32) (so bo : Nat → Option Nat) (ag : Nat → Int32) (rf : Nat → Option Nat) (wt : Nat → Nat) (o ff : Nat) (ho : o < 20) (hff : ff ≤ 20) (hbo : ∀ k, bo o = some k → k < 20) : cM l yX4_isKept wsX4_isKept 0 0 (0) (0) G [.ref (ad 0), .int (nI o), .int (nI ff)] (pW G ad td tl fd st nb ns bd bl sd sl so bo ag rf wt) (qI G (S := Unit) (fun r _ => r = if pKept bo o ff then 1 else 0) (fun _ => pW G ad td tl fd st nb ns bd bl sd sl so bo ag rf wt)) := by
  refine o_M (cc := cX4_isKept) (maxL := 3) (ret := (some .boolean)) (own := RX4) (by decide +kernel) rfl rfl (Nat.le_of_ble_eq_true rfl) ?_
  intro p e s m below meth c A ls H locs hA C h hr hlk hnm hl
  have hx := C.1.1.1
  have hb := C.1.1.2.1
  have hl : lv_has ls 3 [(0, .ref (ad 0)), (1, .int (nI o)), (2, .int (nI ff))] := hl
  have wd0 : Cond.fieldLink RX4 25 "ScaleHouse$Pairing" "buyerOf" "[I" ∈ wsX4_isKept := by decide +kernel
  have hinX4 : ∀ w ∈ wsX40, w ∈ wsX4_isKept := by decide +kernel
  refine lv_aload_n hx hb dX4_isKept_0 rfl (lv_at hl 0 rfl) ?_
  refine r_get C h 0 rfl (Cn := RX4) (T := TX4) (N := 11) rfl hinX4 3 (by decide) (index := 25) (ref := "ScaleHouse$Pairing") wd0 rfl (v := .ref (ad 8)) rfl dX4_isKept_1 ?_
  refine lv_iload_n hx hb dX4_isKept_4 rfl (lv_at hl 1 rfl) ?_
  refine r_iald C h 8 rfl (i := (nI o)) (vp_in_nI ho (by decide)) dX4_isKept_5 ?_
  refine lv_cgi (y := (oI (bo o))) (nn_at (oF bo) (by omega)) ?_
  refine lv_iconst (v := -1) hx hb dX4_isKept_6 (by decide) ?_
  refine lv_icmp_eq (tgt := 24) hx hb dX4_isKept_7 (by decide) (fun c_7 => ?_) (fun c_7 => ?_)
  · have e7 : bo o = none := (oI_m1 (fun k z => by have := hbo k z; omega)).mp c_7
    refine lv_iconst (v := 0) hx hb dX4_isKept_24 (by decide) ?_
    exact r_zret C h hr hlk (Nat.zero_le _) (Nat.zero_le _) (Or.inl rfl) () (by simp [pKept, e7]) (rfl) dX4_isKept_25
  · obtain ⟨b, e7⟩ : ∃ b, bo o = some b := Option.ne_none_iff_exists'.mp (fun z => c_7 (by rw [z]; rfl))
    have hb20 := hbo b e7
    refine lv_aload_n hx hb dX4_isKept_10 rfl (lv_at hl 0 rfl) ?_
    refine r_get C h 0 rfl (Cn := RX4) (T := TX4) (N := 11) rfl hinX4 3 (by decide) (index := 25) (ref := "ScaleHouse$Pairing") wd0 rfl (v := .ref (ad 8)) rfl dX4_isKept_11 ?_
    refine lv_iload_n hx hb dX4_isKept_14 rfl (lv_at hl 1 rfl) ?_
    refine r_iald C h 8 rfl (i := (nI o)) (vp_in_nI ho (by decide)) dX4_isKept_15 ?_
    refine lv_cgi (y := (oI (bo o))) (nn_at (oF bo) (by omega)) ?_
    refine lv_iload_n hx hb dX4_isKept_16 rfl (lv_at hl 2 rfl) ?_
    refine lv_icmp_ge (tgt := 24) hx hb dX4_isKept_17 (by decide) (fun c_17 => ?_) (fun c_17 => ?_)
    · have e17 : ¬ b < ff := fun z => absurd (by rw [e7] at c_17; exact c_17) (nI_ge z (by omega))
      refine lv_iconst (v := 0) hx hb dX4_isKept_24 (by decide) ?_
      exact r_zret C h hr hlk (Nat.zero_le _) (Nat.zero_le _) (Or.inl rfl) () (by simp [pKept, e7, e17]) (rfl) dX4_isKept_25
    · have e17 : b < ff := nn_lt (by rw [e7] at c_17; exact c_17) (by omega)
      refine lv_iconst (v := 1) hx hb dX4_isKept_20 (by decide) ?_
      refine lv_goto (tgt := 25) hx hb dX4_isKept_21 (by decide) ?_
      exact r_zret C h hr hlk (Nat.zero_le _) (Nat.zero_le _) (Or.inr rfl) () (by simp [pKept, e7, e17]) (rfl) dX4_isKept_25

set_option maxHeartbeats 4000000 in
set_option maxRecDepth 100000 in
theorem p_join (l : Launch) (G : gG) (ad : Nat → Nat) (td tl fd st : Int32) (nb ns : Nat) (bd bl sd sl : Nat → Int32) (so bo : Nat → Option Nat) (ag : Nat → Int32) (rf : Nat → Option Nat) (wt : Nat → Nat) (r o : Nat) (hr1 : r < 20) (ho : o < 20) : cM l yX4_join wsX4_join 0 0 (0) (0) G [.ref (ad 0), .int (nI r), .int (nI o)] (pW G ad td tl fd st nb ns bd bl sd sl so bo ag rf wt) (qV G (S := Unit) (fun _ => True) (fun _ => pW G ad td tl fd st nb ns bd bl sd sl (va_up so r (some o)) (va_up bo o (some r)) ag rf wt)) := by
  refine o_M (cc := cX4_join) (maxL := 3) (ret := none) (own := RX4) (by decide +kernel) rfl rfl (Nat.le_of_ble_eq_true rfl) ?_
  intro p e s m below meth c A ls H locs hA C h hr hlk hnm hl
  have hx := C.1.1.1
  have hb := C.1.1.2.1
  have hl : lv_has ls 3 [(0, .ref (ad 0)), (1, .int (nI r)), (2, .int (nI o))] := hl
  have wd0 : Cond.fieldLink RX4 21 "ScaleHouse$Pairing" "sellerOf" "[I" ∈ wsX4_join := by decide +kernel
  have hinX4 : ∀ w ∈ wsX40, w ∈ wsX4_join := by decide +kernel
  have wd1 : Cond.fieldLink RX4 25 "ScaleHouse$Pairing" "buyerOf" "[I" ∈ wsX4_join := by decide +kernel
  refine lv_aload_n hx hb dX4_join_0 rfl (lv_at hl 0 rfl) ?_
  refine r_get C h 0 rfl (Cn := RX4) (T := TX4) (N := 11) rfl hinX4 2 (by decide) (index := 21) (ref := "ScaleHouse$Pairing") wd0 rfl (v := .ref (ad 7)) rfl dX4_join_1 ?_
  refine lv_iload_n hx hb dX4_join_4 rfl (lv_at hl 1 rfl) ?_
  refine lv_iload_n hx hb dX4_join_5 rfl (lv_at hl 2 rfl) ?_
  refine r_iast C h 7 rfl (i := (nI r)) (vp_in_nI hr1 (by decide)) dX4_join_6 (fun H locs h => ?_)
  have h : gS G A s ([((ad 0), .inr (4, [.ref (ad 1), .ref (ad 4), .ref (ad 7), .ref (ad 8), .ref (ad 9), .ref (ad 10), .ref (ad 11), .int td, .int tl, .int fd, .int st])), ((ad 1), .inr (7, [.ref (ad 2), .ref (ad 3), .int (nI nb)])), ((ad 2), .inl (G.2.2 1, 20, .inl bd)), ((ad 3), .inl (G.2.2 1, 20, .inl bl)), ((ad 4), .inr (7, [.ref (ad 5), .ref (ad 6), .int (nI ns)])), ((ad 5), .inl (G.2.2 1, 20, .inl sd)), ((ad 6), .inl (G.2.2 1, 20, .inl sl)), ((ad 7), .inl (G.2.2 1, 20, .inl (upd (oF so) (nI r).toNatClampNeg (nI o)))), ((ad 8), .inl (G.2.2 1, 20, .inl (oF bo))), ((ad 9), .inl (G.2.2 1, 20, .inl ag)), ((ad 10), .inl (G.2.2 1, 20, .inl (oF rf))), ((ad 11), .inl (G.2.2 1, 20, .inl (nF wt)))]) H locs := h
  rw [show (upd (oF so) (nI r).toNatClampNeg (nI o)) = (oF (va_up so r (some o))) from by rw [nI_clamp (by omega), ← oI_s, oF_up]] at h
  have h : gS G A s (pW G ad td tl fd st nb ns bd bl sd sl (va_up so r (some o)) bo ag rf wt) H locs := h
  refine lv_aload_n hx hb dX4_join_7 rfl (lv_at hl 0 rfl) ?_
  refine r_get C h 0 rfl (Cn := RX4) (T := TX4) (N := 11) rfl hinX4 3 (by decide) (index := 25) (ref := "ScaleHouse$Pairing") wd1 rfl (v := .ref (ad 8)) rfl dX4_join_8 ?_
  refine lv_iload_n hx hb dX4_join_11 rfl (lv_at hl 2 rfl) ?_
  refine lv_iload_n hx hb dX4_join_12 rfl (lv_at hl 1 rfl) ?_
  refine r_iast C h 8 rfl (i := (nI o)) (vp_in_nI ho (by decide)) dX4_join_13 (fun H locs h => ?_)
  have h : gS G A s ([((ad 0), .inr (4, [.ref (ad 1), .ref (ad 4), .ref (ad 7), .ref (ad 8), .ref (ad 9), .ref (ad 10), .ref (ad 11), .int td, .int tl, .int fd, .int st])), ((ad 1), .inr (7, [.ref (ad 2), .ref (ad 3), .int (nI nb)])), ((ad 2), .inl (G.2.2 1, 20, .inl bd)), ((ad 3), .inl (G.2.2 1, 20, .inl bl)), ((ad 4), .inr (7, [.ref (ad 5), .ref (ad 6), .int (nI ns)])), ((ad 5), .inl (G.2.2 1, 20, .inl sd)), ((ad 6), .inl (G.2.2 1, 20, .inl sl)), ((ad 7), .inl (G.2.2 1, 20, .inl (oF (va_up so r (some o))))), ((ad 8), .inl (G.2.2 1, 20, .inl (upd (oF bo) (nI o).toNatClampNeg (nI r)))), ((ad 9), .inl (G.2.2 1, 20, .inl ag)), ((ad 10), .inl (G.2.2 1, 20, .inl (oF rf))), ((ad 11), .inl (G.2.2 1, 20, .inl (nF wt)))]) H locs := h
  rw [show (upd (oF bo) (nI o).toNatClampNeg (nI r)) = (oF (va_up bo o (some r))) from by rw [nI_clamp (by omega), ← oI_s, oF_up]] at h
  have h : gS G A s (pW G ad td tl fd st nb ns bd bl sd sl (va_up so r (some o)) (va_up bo o (some r)) ag rf wt) H locs := h
  exact r_vret C h hr hlk (Nat.zero_le _) (Nat.zero_le _) () (trivial) (rfl) dX4_join_14

def jbF (rf : Nat → Option Nat) : Nat → Option Nat → (Nat → Option Nat) → (Nat → Option Nat) → (Nat → Option Nat) × (Nat → Option Nat)
  | 0, _, so, bo => (so, bo)
  | r + 1, x, so, bo => if x = none then (so, bo) else jbF rf r (so ((rf (x.getD 0)).getD 0)) (va_up so ((rf (x.getD 0)).getD 0) x) (va_up bo (x.getD 0) (rf (x.getD 0)))
/-- every place that was reached leads back to a row, and from there on to a place that was reached -/
def jbK (rf so : Nat → Option Nat) : Prop := ∀ o r, o < 20 → rf o = some r → r < 20 ∧ ∀ o2, so r = some o2 → o2 < 20 ∧ ∃ r2, rf o2 = some r2
theorem jbK_up {rf so : Nat → Option Nat} (h : jbK rf so) {o r : Nat} (ho : o < 20) (hr : rf o = some r) : jbK rf (va_up so r (some o)) := by
  intro o1 r1 l1 h1
  obtain ⟨b, c⟩ := h o1 r1 l1 h1
  refine ⟨b, fun o2 h2 => ?_⟩
  unfold va_up at h2
  split at h2
  · cases h2; exact ⟨ho, r, hr⟩
  · exact c o2 h2

set_option maxHeartbeats 4000000 in
set_option maxRecDepth 100000 in
theorem lp_X4_joinBackFrom {p : Program} {l : Launch} {e : Env} {s : State} {m : MethodId} {args : Array Value} {below : List Frame} {meth : Method} {c : Code} {Q : State → Prop} {G : gG} {A : Nat → Prop} (C : gC p m c cX4_joinBackFrom 6 s args wsX4_joinBackFrom RX4 G A) (ad : Nat → Nat) (td tl fd st : Int32) (nb ns : Nat) (bd bl sd sl : Nat → Int32) (ag : Nat → Int32) (rf : Nat → Option Nat) (wt : Nat → Nat) (z : (Nat → Option Nat) × (Nat → Option Nat)) (kx : ∀ (H : Heap) (locs : List Loc) (ls : Array Slot), gS G A s (pW G ad td tl fd st nb ns bd bl sd sl z.1 z.2 ag rf wt) H locs → W p l e (gR 1 40 0 0) s m args below meth c H locs 0 0 Q (F0 m 48 ls [])) :
    ∀ (r : Nat) (i : Nat) (x : Option Nat) (so bo : Nat → Option Nat) (H : Heap) (locs : List Loc) (ls : Array Slot), (i + r = 20) → (jbK rf so) → (∀ o1, x = some o1 → o1 < 20 ∧ ∃ r1, rf o1 = some r1) → (jbF rf r x so bo = z) →  gS G A s (pW G ad td tl fd st nb ns bd bl sd sl so bo ag rf wt) H locs → lv_has ls 6 [(0, .ref (ad 0)), (2, .int (oI x)), (3, .int (nI i))] → W p l e (gR 1 40 0 0) s m args below meth c H locs 0 0 Q (F0 m 4 ls []) := by
  have hx := C.1.1.1
  have hb := C.1.1.2.1
  have wd0 : Cond.fieldLink RX4 31 "ScaleHouse$Pairing" "reachedFrom" "[I" ∈ wsX4_joinBackFrom := by decide +kernel
  have hinX4 : ∀ w ∈ wsX40, w ∈ wsX4_joinBackFrom := by decide +kernel
  have wd1 : Cond.fieldLink RX4 21 "ScaleHouse$Pairing" "sellerOf" "[I" ∈ wsX4_joinBackFrom := by decide +kernel
  intro r
  induction r with
  | zero =>
    intro i x so bo H locs ls hi hK hx1 hz h hl
    refine lv_iload_n hx hb dX4_joinBackFrom_4 rfl (lv_at hl 2 rfl) ?_
    refine lv_bipush (v := 20) hx hb dX4_joinBackFrom_5 (by decide) ?_
    refine lv_icmp_ge (tgt := 48) hx hb dX4_joinBackFrom_7 (by decide) (fun c_7 => ?_) (fun c_7 => ?_)
    · subst hz
      exact kx _ _ ls h
    · exact absurd (by rw [show i = 20 by omega]; decide) c_7
  | succ r ih =>
    intro i x so bo H locs ls hi hK hx1 hz h hl
    refine lv_iload_n hx hb dX4_joinBackFrom_4 rfl (lv_at hl 2 rfl) ?_
    refine lv_bipush (v := 20) hx hb dX4_joinBackFrom_5 (by decide) ?_
    refine lv_icmp_ge (tgt := 48) hx hb dX4_joinBackFrom_7 (by decide) (fun c_7 => ?_) (fun c_7 => ?_)
    · exact absurd c_7 (nI_ge (b := 20) (by omega) (by decide))
    · refine lv_iload_n hx hb dX4_joinBackFrom_10 rfl (lv_at hl 1 rfl) ?_
      refine lv_iconst (v := -1) hx hb dX4_joinBackFrom_11 (by decide) ?_
      refine lv_icmp_eq (tgt := 48) hx hb dX4_joinBackFrom_12 (by decide) (fun c_12 => ?_) (fun c_12 => ?_)
      · have ex : x = none := (oI_m1 (fun k z => by have := (hx1 k z).1; omega)).mp c_12
        subst ex
        rw [jbF, if_pos rfl] at hz
        subst hz
        exact kx _ _ ls h
      · obtain ⟨o1, rfl⟩ : ∃ o1, x = some o1 := Option.ne_none_iff_exists'.mp (fun z => c_12 (by rw [z]; rfl))
        obtain ⟨ho1, r1, e1⟩ := hx1 o1 rfl
        obtain ⟨hr1, hnx⟩ := hK o1 r1 ho1 e1
        refine lv_aload_n hx hb dX4_joinBackFrom_15 rfl (lv_at hl 0 rfl) ?_
        refine r_get C h 0 rfl (Cn := RX4) (T := TX4) (N := 11) rfl hinX4 5 (by decide) (index := 31) (ref := "ScaleHouse$Pairing") wd0 rfl (v := .ref (ad 10)) rfl dX4_joinBackFrom_16 ?_
        refine lv_iload_n hx hb dX4_joinBackFrom_19 rfl (lv_at hl 1 rfl) ?_
        refine r_iald C h 10 rfl (i := (nI o1)) (vp_in_nI ho1 (by decide)) dX4_joinBackFrom_20 ?_
        refine lv_cgi (y := (nI r1)) (by rw [nn_at (oF rf) (by omega), oF, e1, oI_s]) ?_
        refine lv_istore (lv' := [(4, .int (nI r1)), (0, .ref (ad 0)), (2, .int (nI o1)), (3, .int (nI i))]) hx hb dX4_joinBackFrom_21 hl (by decide) rfl (fun ls hl => ?_)
        refine lv_aload_n hx hb dX4_joinBackFrom_23 rfl (lv_at hl 1 rfl) ?_
        refine r_get C h 0 rfl (Cn := RX4) (T := TX4) (N := 11) rfl hinX4 2 (by decide) (index := 21) (ref := "ScaleHouse$Pairing") wd1 rfl (v := .ref (ad 7)) rfl dX4_joinBackFrom_24 ?_
        refine lv_iload hx hb dX4_joinBackFrom_27 (lv_at hl 0 rfl) ?_
        refine r_iald C h 7 rfl (i := (nI r1)) (vp_in_nI hr1 (by decide)) dX4_joinBackFrom_29 ?_
        refine lv_cgi (y := (oI (so r1))) (nn_at (oF so) (by omega)) ?_
        refine lv_istore (lv' := [(5, .int (oI (so r1))), (4, .int (nI r1)), (0, .ref (ad 0)), (2, .int (nI o1)), (3, .int (nI i))]) hx hb dX4_joinBackFrom_30 hl (by decide) rfl (fun ls hl => ?_)
        refine lv_aload_n hx hb dX4_joinBackFrom_32 rfl (lv_at hl 2 rfl) ?_
        refine lv_iload hx hb dX4_joinBackFrom_33 (lv_at hl 1 rfl) ?_
        refine lv_iload_n hx hb dX4_joinBackFrom_35 rfl (lv_at hl 3 rfl) ?_
        have hp : List.Perm (pW G ad td tl fd st nb ns bd bl sd sl so bo ag rf wt : va_W) ([((ad 0), .inr (4, [.ref (ad 1), .ref (ad 4), .ref (ad 7), .ref (ad 8), .ref (ad 9), .ref (ad 10), .ref (ad 11), .int td, .int tl, .int fd, .int st])), ((ad 1), .inr (7, [.ref (ad 2), .ref (ad 3), .int (nI nb)])), ((ad 2), .inl (G.2.2 1, 20, .inl bd)), ((ad 3), .inl (G.2.2 1, 20, .inl bl)), ((ad 4), .inr (7, [.ref (ad 5), .ref (ad 6), .int (nI ns)])), ((ad 5), .inl (G.2.2 1, 20, .inl sd)), ((ad 6), .inl (G.2.2 1, 20, .inl sl)), ((ad 7), .inl (G.2.2 1, 20, .inl (oF so))), ((ad 8), .inl (G.2.2 1, 20, .inl (oF bo))), ((ad 9), .inl (G.2.2 1, 20, .inl ag)), ((ad 10), .inl (G.2.2 1, 20, .inl (oF rf))), ((ad 11), .inl (G.2.2 1, 20, .inl (nF wt)))] ++ []) := pm 12 rfl [0, 1, 2, 3, 4, 5, 6, 7, 8, 9, 10, 11] (by decide +kernel) rfl
        refine k_v C h hp (r_runV C h hp 0 rfl rfl (As := [.int (nI r1), .int (nI o1)]) (rest := []) (p_join l G ad td tl fd st nb ns bd bl sd sl so bo ag rf wt r1 o1 (by omega) (by omega)) (cwV 2 C.1.1.2.2.2.2 gX4_joinBackFrom_X4_join rfl rfl rfl (by decide +kernel) ⟨Nat.le_of_ble_eq_true rfl, Nat.le_of_ble_eq_true rfl⟩) rfl hl.1 (Nat.le_of_ble_eq_true rfl) dX4_joinBackFrom_36 ⟨Nat.le_of_ble_eq_true rfl, Nat.le_of_ble_eq_true rfl⟩) (fun u_2 H locs hw_3 h => ?_)
        have h : gS G A s (pW G ad td tl fd st nb ns bd bl sd sl (va_up so r1 (some o1)) (va_up bo o1 (some r1)) ag rf wt) H locs := h
        refine W.widen (k := 0) (n := 0) (Nat.le_of_ble_eq_true rfl) (Nat.le_of_ble_eq_true rfl) ?_
        refine lv_iload hx hb dX4_joinBackFrom_39 (lv_at hl 0 rfl) ?_
        refine lv_istore_n (lv' := [(2, .int (oI (so r1))), (5, .int (oI (so r1))), (4, .int (nI r1)), (0, .ref (ad 0)), (3, .int (nI i))]) hx hb dX4_joinBackFrom_41 rfl hl (by decide) rfl (fun ls hl => ?_)
        refine lv_iinc (v := nI (i + 1)) (lv' := [(3, .int (nI (i + 1))), (2, .int (oI (so r1))), (5, .int (oI (so r1))), (4, .int (nI r1)), (0, .ref (ad 0))]) hx hb dX4_joinBackFrom_42 hl (k := 4) rfl (nI_1 _) (by decide) rfl (fun ls hl => ?_)
        refine lv_goto (tgt := 4) hx hb dX4_joinBackFrom_45 (by decide) ?_
        exact ih (i + 1) (so r1) _ _ _ _ ls (by omega) (jbK_up hK ho1 e1) hnx (by rw [← hz, jbF, if_neg (by simp)]; simp only [Option.getD_some, e1]) h (lv_sub hl [4, 1, 0] rfl)

set_option maxHeartbeats 4000000 in
set_option maxRecDepth 100000 in
theorem p_joinBackFrom (l : Launch) (G : gG) (ad : Nat → Nat) (td tl fd st : Int32) (nb ns : Nat) (bd bl sd sl : Nat → Int32) (so bo : Nat → Option Nat) (ag : Nat → Int32) (rf : Nat → Option Nat) (wt : Nat → Nat) (o : Nat) (hK : jbK rf so) (ho : o < 20 ∧ ∃ r1, rf o = some r1) : cM l yX4_joinBackFrom wsX4_joinBackFrom 1 40 (0) (0) G [.ref (ad 0), .int (nI o)] (pW G ad td tl fd st nb ns bd bl sd sl so bo ag rf wt) (qV G (S := Unit) (fun _ => True) (fun _ => pW G ad td tl fd st nb ns bd bl sd sl ((jbF rf 20 (some o) so bo).1) ((jbF rf 20 (some o) so bo).2) ag rf wt)) := by
  refine o_M (cc := cX4_joinBackFrom) (maxL := 6) (ret := none) (own := RX4) (by decide +kernel) rfl rfl (Nat.le_of_ble_eq_true rfl) ?_
  intro p e s m below meth c A ls H locs hA C h hr hlk hnm hl
  have hx := C.1.1.1
  have hb := C.1.1.2.1
  have hl : lv_has ls 6 [(0, .ref (ad 0)), (1, .int (nI o))] := hl
  refine lv_iload_n hx hb dX4_joinBackFrom_0 rfl (lv_at hl 1 rfl) ?_
  refine lv_istore_n (lv' := [(2, .int (nI o)), (0, .ref (ad 0)), (1, .int (nI o))]) hx hb dX4_joinBackFrom_1 rfl hl (by decide) rfl (fun ls hl => ?_)
  refine lv_iconst (v := 0) hx hb dX4_joinBackFrom_2 (by decide) ?_
  refine lv_istore_n (lv' := [(3, .int 0), (2, .int (nI o)), (0, .ref (ad 0)), (1, .int (nI o))]) hx hb dX4_joinBackFrom_3 rfl hl (by decide) rfl (fun ls hl => ?_)
  refine lp_X4_joinBackFrom C ad td tl fd st nb ns bd bl sd sl ag rf wt (jbF rf 20 (some o) so bo) (fun H locs ls h => ?_) 20 0 (some o) so bo _ _ ls (by omega) hK (fun o1 z => by cases z; exact ho) rfl h (lv_sub hl [2, 1, 0] rfl)
  exact r_vret C h hr hlk (Nat.zero_le _) (Nat.zero_le _) () trivial rfl dX4_joinBackFrom_48

/-- the two sides of a pairing agree -/
def pM (nb ns : Nat) (so bo : Nat → Option Nat) : Prop := (∀ o b, o < 20 → bo o = some b → b < nb ∧ o < ns ∧ so b = some o) ∧ ∀ r o, r < 20 → so r = some o → r < nb ∧ o < ns ∧ bo o = some r
def wtF (so : Nat → Option Nat) : Nat → Nat → (Nat → Nat) → Nat → (Nat → Nat) × Nat
  | 0, _, wt, n => (wt, n)
  | r + 1, row, wt, n => if so row = none then wtF so r (row + 1) (va_up wt n row) (n + 1) else wtF so r (row + 1) wt n
abbrev BS : Type := Option Nat × (Nat → Option Nat) × (Nat → Nat) × Nat
def bfI (ag : Nat → Int32) (bo : Nat → Option Nat) (ff row : Nat) : Nat → Nat → (Nat → Option Nat) → (Nat → Nat) → Nat → BS
  | 0, _, rf, wt, n => (none, rf, wt, n)
  | r + 1, o, rf, wt, n => if abit (ag row) o = false then bfI ag bo ff row r (o + 1) rf wt n else if rf o = none then (if pKept bo o ff = true then bfI ag bo ff row r (o + 1) rf wt n
      else if bo o = none then (some o, va_up rf o (some row), wt, n) else if n < 20 then bfI ag bo ff row r (o + 1) (va_up rf o (some row)) (va_up wt n ((bo o).getD 0)) (n + 1) else bfI ag bo ff row r (o + 1) (va_up rf o (some row)) wt n)
    else bfI ag bo ff row r (o + 1) rf wt n
def bfO (ag : Nat → Int32) (bo : Nat → Option Nat) (ff ns : Nat) : Nat → Nat → (Nat → Option Nat) → (Nat → Nat) → Nat → BS
  | 0, _, rf, wt, n => (none, rf, wt, n)
  | r + 1, i, rf, wt, n => if i < n then (if (bfI ag bo ff (wt i) ns 0 rf wt n).1 = none then bfO ag bo ff ns r (i + 1) (bfI ag bo ff (wt i) ns 0 rf wt n).2.1 (bfI ag bo ff (wt i) ns 0 rf wt n).2.2.1 (bfI ag bo ff (wt i) ns 0 rf wt n).2.2.2 else bfI ag bo ff (wt i) ns 0 rf wt n) else (none, rf, wt, n)
/-- what holds while ways are looked for -/
def bK (nb : Nat) (so rf : Nat → Option Nat) (wt : Nat → Nat) (n : Nat) : Prop := jbK rf so ∧ (∀ j, j < n → wt j < nb ∧ ∀ o2, so (wt j) = some o2 → o2 < 20 ∧ ∃ r2, rf o2 = some r2) ∧ n ≤ 20
theorem up_at {α : Type} (f : Nat → α) (k : Nat) (x : α) : va_up f k x k = x := by unfold va_up; rw [if_pos rfl]
theorem up_ne {α : Type} (f : Nat → α) {k j : Nat} (x : α) (h : ¬ j = k) : va_up f k x j = f j := by unfold va_up; rw [if_neg h]
theorem up_some {rf : Nat → Option Nat} {o row o2 r2 : Nat} (h : rf o2 = some r2) : ∃ r3, va_up rf o (some row) o2 = some r3 := by
  unfold va_up
  split
  · exact ⟨row, rfl⟩
  · exact ⟨r2, h⟩
theorem bK_rf {nb : Nat} {so rf : Nat → Option Nat} {wt : Nat → Nat} {n o row : Nat} (hb : nb ≤ 20) (ho : o < 20) (hr : row < nb) (hx : ∀ o2, so row = some o2 → o2 < 20 ∧ ∃ r2, rf o2 = some r2) (h : bK nb so rf wt n) : bK nb so (va_up rf o (some row)) wt n := by
  obtain ⟨h1, h2, h3⟩ := h
  refine ⟨fun o1 r1 l1 e1 => ?_, fun j hj => ⟨(h2 j hj).1, fun o2 e2 => ?_⟩, h3⟩
  · by_cases q : o1 = o
    · subst q
      rw [show va_up rf o1 (some row) o1 = some row by unfold va_up; rw [if_pos rfl]] at e1
      cases e1
      refine ⟨by omega, fun o2 e2 => ?_⟩
      obtain ⟨l2, r2, z⟩ := hx o2 e2
      exact ⟨l2, up_some z⟩
    · rw [show va_up rf o (some row) o1 = rf o1 by unfold va_up; rw [if_neg q]] at e1
      obtain ⟨b, c⟩ := h1 o1 r1 l1 e1
      refine ⟨b, fun o2 e2 => ?_⟩
      obtain ⟨l2, r2, z⟩ := c o2 e2
      exact ⟨l2, up_some z⟩
  · obtain ⟨l2, r2, z⟩ := (h2 j hj).2 o2 e2
    exact ⟨l2, up_some z⟩
theorem bK_wt {nb : Nat} {so rf : Nat → Option Nat} {wt : Nat → Nat} {n b : Nat} (hn : n < 20) (hb : b < nb) (hx : ∀ o2, so b = some o2 → o2 < 20 ∧ ∃ r2, rf o2 = some r2) (h : bK nb so rf wt n) : bK nb so rf (va_up wt n b) (n + 1) := by
  obtain ⟨h1, h2, h3⟩ := h
  refine ⟨h1, fun j hj => ?_, by omega⟩
  unfold va_up
  split
  · exact ⟨hb, hx⟩
  · exact h2 j (by omega)

set_option maxHeartbeats 4000000 in
set_option maxRecDepth 100000 in
theorem lp_X4_pom_in {p : Program} {l : Launch} {e : Env} {s : State} {m : MethodId} {args : Array Value} {below : List Frame} {meth : Method} {c : Code} {Q : State → Prop} {G : gG} {A : Nat → Prop} (C : gC p m c cX4_pairOneMore 7 s args wsX4_pairOneMore RX4 G A) (ad : Nat → Nat) (td tl fd st : Int32) (nb ns : Nat) (bd bl sd sl : Nat → Int32) (so bo : Nat → Option Nat) (ag : Nat → Int32) (ff i row : Nat) (z : BS) (hnb : nb ≤ 20) (hns : ns ≤ 20) (hff : ff ≤ 20) (hM : pM nb ns so bo) (hrow : row < nb) (kx : ∀ (H : Heap) (locs : List Loc) (ls : Array Slot), z.1 = none → bK nb so z.2.1 z.2.2.1 z.2.2.2 → gS G A s (pW G ad td tl fd st nb ns bd bl sd sl so bo ag z.2.1 z.2.2.1) H locs → lv_has ls 7 [(0, .ref (ad 0)), (1, .int (nI ff)), (2, .int (nI z.2.2.2)), (3, .int (nI i))] → W p l e (gR 2 70 0 0) s m args below meth c H locs 0 0 Q (F0 m 192 ls [])) (kf : ∀ (H : Heap) (locs : List Loc) (ls : Array Slot) (o : Nat), z.1 = some o → o < 20 → bK nb so z.2.1 z.2.2.1 z.2.2.2 → (∃ r1, z.2.1 o = some r1) → gS G A s (pW G ad td tl fd st nb ns bd bl sd sl so bo ag z.2.1 z.2.2.1) H locs → lv_has ls 7 [(0, .ref (ad 0)), (5, .int (nI o))] → W p l e (gR 2 70 0 0) s m args below meth c H locs 0 0 Q (F0 m 156 ls [])) :
    ∀ (r : Nat) (o : Nat) (rf : Nat → Option Nat) (wt : Nat → Nat) (n : Nat) (H : Heap) (locs : List Loc) (ls : Array Slot), (o + r = ns) → (bK nb so rf wt n) → (∀ o2, so row = some o2 → o2 < 20 ∧ ∃ r2, rf o2 = some r2) → (bfI ag bo ff row r o rf wt n = z) →  gS G A s (pW G ad td tl fd st nb ns bd bl sd sl so bo ag rf wt) H locs → lv_has ls 7 [(0, .ref (ad 0)), (1, .int (nI ff)), (2, .int (nI n)), (3, .int (nI i)), (4, .int (nI row)), (5, .int (nI o))] → W p l e (gR 2 70 0 0) s m args below meth c H locs 0 0 Q (F0 m 73 ls []) := by
  have hx := C.1.1.1
  have hb := C.1.1.2.1
  have wd0 : Cond.fieldLink RX4 18 "ScaleHouse$Pairing" "seller" "LScaleHouse$Tally;" ∈ wsX4_pairOneMore := by decide +kernel
  have hinX4 : ∀ w ∈ wsX40, w ∈ wsX4_pairOneMore := by decide +kernel
  have wd1 : Cond.fieldLinkNest RX4 55 "ScaleHouse$Tally" "size" "I" "ScaleHouse" ∈ nW := by decide +kernel
  have hinX7 : ∀ w ∈ wsX70, w ∈ wsX4_pairOneMore := by decide +kernel
  have wd2 : Cond.fieldLink RX4 28 "ScaleHouse$Pairing" "agreeing" "[I" ∈ wsX4_pairOneMore := by decide +kernel
  have wd3 : Cond.fieldLink RX4 31 "ScaleHouse$Pairing" "reachedFrom" "[I" ∈ wsX4_pairOneMore := by decide +kernel
  have wd4 : Cond.fieldLink RX4 25 "ScaleHouse$Pairing" "buyerOf" "[I" ∈ wsX4_pairOneMore := by decide +kernel
  have wd5 : Cond.fieldLink RX4 34 "ScaleHouse$Pairing" "waiting" "[I" ∈ wsX4_pairOneMore := by decide +kernel
  intro r
  induction r with
  | zero =>
    intro o rf wt n H locs ls ho hB hrx hz h hl
    refine lv_iload hx hb dX4_pairOneMore_73 (lv_at hl 5 rfl) ?_
    refine lv_aload_n hx hb dX4_pairOneMore_75 rfl (lv_at hl 0 rfl) ?_
    refine r_get C h 0 rfl (Cn := RX4) (T := TX4) (N := 11) rfl hinX4 1 (by decide) (index := 18) (ref := "ScaleHouse$Pairing") wd0 rfl (v := .ref (ad 4)) rfl dX4_pairOneMore_76 ?_
    refine r_getN C h 4 rfl (Cn := RX7) (T := TX7) (N := 3) rfl hinX7 2 (by decide) (index := 55) (ref := "ScaleHouse$Tally") wd1 rfl (v := .int (nI ns)) rfl dX4_pairOneMore_79 ?_
    refine lv_icmp_ge (tgt := 192) hx hb dX4_pairOneMore_82 (by decide) (fun c_82 => ?_) (fun c_82 => ?_)
    · subst hz
      exact kx _ _ ls rfl hB h (lv_sub hl [0, 1, 2, 3] rfl)
    · exact absurd (by rw [show o = ns by omega]; exact Int32.le_refl _) c_82
  | succ r ih =>
    intro o rf wt n H locs ls ho hB hrx hz h hl
    have hn20 : n ≤ 20 := hB.2.2
    refine lv_iload hx hb dX4_pairOneMore_73 (lv_at hl 5 rfl) ?_
    refine lv_aload_n hx hb dX4_pairOneMore_75 rfl (lv_at hl 0 rfl) ?_
    refine r_get C h 0 rfl (Cn := RX4) (T := TX4) (N := 11) rfl hinX4 1 (by decide) (index := 18) (ref := "ScaleHouse$Pairing") wd0 rfl (v := .ref (ad 4)) rfl dX4_pairOneMore_76 ?_
    refine r_getN C h 4 rfl (Cn := RX7) (T := TX7) (N := 3) rfl hinX7 2 (by decide) (index := 55) (ref := "ScaleHouse$Tally") wd1 rfl (v := .int (nI ns)) rfl dX4_pairOneMore_79 ?_
    refine lv_icmp_ge (tgt := 192) hx hb dX4_pairOneMore_82 (by decide) (fun c_82 => ?_) (fun c_82 => ?_)
    · exact absurd c_82 (nI_ge (by omega) (by omega))
    · refine lv_aload_n hx hb dX4_pairOneMore_85 rfl (lv_at hl 0 rfl) ?_
      refine r_get C h 0 rfl (Cn := RX4) (T := TX4) (N := 11) rfl hinX4 4 (by decide) (index := 28) (ref := "ScaleHouse$Pairing") wd2 rfl (v := .ref (ad 9)) rfl dX4_pairOneMore_86 ?_
      refine lv_iload hx hb dX4_pairOneMore_89 (lv_at hl 4 rfl) ?_
      refine r_iald C h 9 rfl (i := (nI row)) (vp_in_nI (by omega) (by decide)) dX4_pairOneMore_91 ?_
      refine lv_cgi (y := (ag row)) (nn_at ag (by omega)) ?_
      refine lv_iload hx hb dX4_pairOneMore_92 (lv_at hl 5 rfl) ?_
      refine lv_ishr hx hb dX4_pairOneMore_94 ?_
      refine lv_iconst (v := 1) hx hb dX4_pairOneMore_95 (by decide) ?_
      refine lv_iand hx hb dX4_pairOneMore_96 ?_
      refine lv_if_eq (tgt := 104) hx hb dX4_pairOneMore_97 (by decide) (fun c_97 => ?_) (fun c_97 => ?_)
      · have b97 : abit (ag row) o = false := by simp [abit, c_97]
        refine lv_iconst (v := 0) hx hb dX4_pairOneMore_104 (by decide) ?_
        refine lv_istore (lv' := [(6, .int 0), (0, .ref (ad 0)), (1, .int (nI ff)), (2, .int (nI n)), (3, .int (nI i)), (4, .int (nI row)), (5, .int (nI o))]) hx hb dX4_pairOneMore_105 hl (by decide) rfl (fun ls hl => ?_)
        refine lv_iload hx hb dX4_pairOneMore_107 (lv_at hl 0 rfl) ?_
        refine lv_if_eq (tgt := 186) hx hb dX4_pairOneMore_109 (by decide) (fun c_109 => ?_) (fun c_109 => ?_)
        · refine lv_iinc (v := nI (o + 1)) (lv' := [(5, .int (nI (o + 1))), (6, .int 0), (0, .ref (ad 0)), (1, .int (nI ff)), (2, .int (nI n)), (3, .int (nI i)), (4, .int (nI row))]) hx hb dX4_pairOneMore_186 hl (k := 6) rfl (nI_1 _) (by decide) rfl (fun ls hl => ?_)
          refine lv_goto (tgt := 73) hx hb dX4_pairOneMore_189 (by decide) ?_
          exact ih (o + 1) rf wt n _ _ ls (by omega) (hB) hrx (by rw [← hz, bfI]; simp only [if_pos b97]) h (lv_sub hl [2, 3, 4, 5, 6, 0] rfl)
        · exact absurd c_109 (by decide)
      · have b97 : ¬ abit (ag row) o = false := by simp [abit, c_97]
        refine lv_iconst (v := 1) hx hb dX4_pairOneMore_100 (by decide) ?_
        refine lv_goto (tgt := 105) hx hb dX4_pairOneMore_101 (by decide) ?_
        refine lv_istore (lv' := [(6, .int 1), (0, .ref (ad 0)), (1, .int (nI ff)), (2, .int (nI n)), (3, .int (nI i)), (4, .int (nI row)), (5, .int (nI o))]) hx hb dX4_pairOneMore_105 hl (by decide) rfl (fun ls hl => ?_)
        refine lv_iload hx hb dX4_pairOneMore_107 (lv_at hl 0 rfl) ?_
        refine lv_if_eq (tgt := 186) hx hb dX4_pairOneMore_109 (by decide) (fun c_109 => ?_) (fun c_109 => ?_)
        · exact absurd c_109 (by decide)
        · refine lv_aload_n hx hb dX4_pairOneMore_112 rfl (lv_at hl 1 rfl) ?_
          refine r_get C h 0 rfl (Cn := RX4) (T := TX4) (N := 11) rfl hinX4 5 (by decide) (index := 31) (ref := "ScaleHouse$Pairing") wd3 rfl (v := .ref (ad 10)) rfl dX4_pairOneMore_113 ?_
          refine lv_iload hx hb dX4_pairOneMore_116 (lv_at hl 6 rfl) ?_
          refine r_iald C h 10 rfl (i := (nI o)) (vp_in_nI (by omega) (by decide)) dX4_pairOneMore_118 ?_
          refine lv_cgi (y := (oI (rf o))) (nn_at (oF rf) (by omega)) ?_
          refine lv_iconst (v := -1) hx hb dX4_pairOneMore_119 (by decide) ?_
          refine lv_icmp_ne (tgt := 186) hx hb dX4_pairOneMore_120 (by decide) (fun c_120 => ?_) (fun c_120 => ?_)
          · have r120 : ¬ rf o = none := fun z => c_120 (by rw [z]; rfl)
            refine lv_iinc (v := nI (o + 1)) (lv' := [(5, .int (nI (o + 1))), (6, .int 1), (0, .ref (ad 0)), (1, .int (nI ff)), (2, .int (nI n)), (3, .int (nI i)), (4, .int (nI row))]) hx hb dX4_pairOneMore_186 hl (k := 6) rfl (nI_1 _) (by decide) rfl (fun ls hl => ?_)
            refine lv_goto (tgt := 73) hx hb dX4_pairOneMore_189 (by decide) ?_
            exact ih (o + 1) rf wt n _ _ ls (by omega) (hB) hrx (by rw [← hz, bfI]; simp only [if_neg b97, if_neg r120]) h (lv_sub hl [2, 3, 4, 5, 6, 0] rfl)
          · have r120 : rf o = none := (oI_m1 (fun k z => by have := (hB.1 o k (by omega) z).1; omega)).mp c_120
            refine lv_aload_n hx hb dX4_pairOneMore_123 rfl (lv_at hl 1 rfl) ?_
            refine lv_iload hx hb dX4_pairOneMore_124 (lv_at hl 6 rfl) ?_
            refine lv_iload_n hx hb dX4_pairOneMore_126 rfl (lv_at hl 2 rfl) ?_
            have hp : List.Perm (pW G ad td tl fd st nb ns bd bl sd sl so bo ag rf wt : va_W) ([((ad 0), .inr (4, [.ref (ad 1), .ref (ad 4), .ref (ad 7), .ref (ad 8), .ref (ad 9), .ref (ad 10), .ref (ad 11), .int td, .int tl, .int fd, .int st])), ((ad 1), .inr (7, [.ref (ad 2), .ref (ad 3), .int (nI nb)])), ((ad 2), .inl (G.2.2 1, 20, .inl bd)), ((ad 3), .inl (G.2.2 1, 20, .inl bl)), ((ad 4), .inr (7, [.ref (ad 5), .ref (ad 6), .int (nI ns)])), ((ad 5), .inl (G.2.2 1, 20, .inl sd)), ((ad 6), .inl (G.2.2 1, 20, .inl sl)), ((ad 7), .inl (G.2.2 1, 20, .inl (oF so))), ((ad 8), .inl (G.2.2 1, 20, .inl (oF bo))), ((ad 9), .inl (G.2.2 1, 20, .inl ag)), ((ad 10), .inl (G.2.2 1, 20, .inl (oF rf))), ((ad 11), .inl (G.2.2 1, 20, .inl (nF wt)))] ++ []) := pm 12 rfl [0, 1, 2, 3, 4, 5, 6, 7, 8, 9, 10, 11] (by decide +kernel) rfl
            refine k_i C h hp (r_runV C h hp 0 rfl rfl (As := [.int (nI o), .int (nI ff)]) (rest := []) (p_isKept l G ad td tl fd st nb ns bd bl sd sl so bo ag rf wt o ff (by omega) (by omega) (fun k z => by have := (hM.1 o k (by omega) z).1; omega)) (cwV 2 C.1.1.2.2.2.2 gX4_pairOneMore_X4_isKept rfl rfl rfl (by decide +kernel) ⟨Nat.le_of_ble_eq_true rfl, Nat.le_of_ble_eq_true rfl⟩) rfl hl.1 (Nat.le_of_ble_eq_true rfl) dX4_pairOneMore_127 ⟨Nat.le_of_ble_eq_true rfl, Nat.le_of_ble_eq_true rfl⟩) (fun r_3 u_4 H locs hw_5 h => ?_)
            have h : gS G A s (pW G ad td tl fd st nb ns bd bl sd sl so bo ag rf wt) H locs := h
            refine W.widen (k := 0) (n := 0) (Nat.le_of_ble_eq_true rfl) (Nat.le_of_ble_eq_true rfl) ?_
            subst hw_5
            refine lv_if_eq (tgt := 136) hx hb dX4_pairOneMore_130 (by decide) (fun c_130 => ?_) (fun c_130 => ?_)
            · have k130 : ¬ pKept bo o ff = true := fun z => by rw [if_pos z] at c_130; exact absurd c_130 (by decide)
              refine lv_aload_n hx hb dX4_pairOneMore_136 rfl (lv_at hl 1 rfl) ?_
              refine r_get C h 0 rfl (Cn := RX4) (T := TX4) (N := 11) rfl hinX4 5 (by decide) (index := 31) (ref := "ScaleHouse$Pairing") wd3 rfl (v := .ref (ad 10)) rfl dX4_pairOneMore_137 ?_
              refine lv_iload hx hb dX4_pairOneMore_140 (lv_at hl 6 rfl) ?_
              refine lv_iload hx hb dX4_pairOneMore_142 (lv_at hl 5 rfl) ?_
              refine r_iast C h 10 rfl (i := (nI o)) (vp_in_nI (by omega) (by decide)) dX4_pairOneMore_144 (fun H locs h => ?_)
              have h : gS G A s ([((ad 0), .inr (4, [.ref (ad 1), .ref (ad 4), .ref (ad 7), .ref (ad 8), .ref (ad 9), .ref (ad 10), .ref (ad 11), .int td, .int tl, .int fd, .int st])), ((ad 1), .inr (7, [.ref (ad 2), .ref (ad 3), .int (nI nb)])), ((ad 2), .inl (G.2.2 1, 20, .inl bd)), ((ad 3), .inl (G.2.2 1, 20, .inl bl)), ((ad 4), .inr (7, [.ref (ad 5), .ref (ad 6), .int (nI ns)])), ((ad 5), .inl (G.2.2 1, 20, .inl sd)), ((ad 6), .inl (G.2.2 1, 20, .inl sl)), ((ad 7), .inl (G.2.2 1, 20, .inl (oF so))), ((ad 8), .inl (G.2.2 1, 20, .inl (oF bo))), ((ad 9), .inl (G.2.2 1, 20, .inl ag)), ((ad 10), .inl (G.2.2 1, 20, .inl (upd (oF rf) (nI o).toNatClampNeg (nI row)))), ((ad 11), .inl (G.2.2 1, 20, .inl (nF wt)))]) H locs := h
              rw [show (upd (oF rf) (nI o).toNatClampNeg (nI row)) = (oF (va_up rf o (some row))) from by rw [nI_clamp (by omega), ← oI_s, oF_up]] at h
              have h : gS G A s (pW G ad td tl fd st nb ns bd bl sd sl so bo ag (va_up rf o (some row)) wt) H locs := h
              refine lv_aload_n hx hb dX4_pairOneMore_145 rfl (lv_at hl 1 rfl) ?_
              refine r_get C h 0 rfl (Cn := RX4) (T := TX4) (N := 11) rfl hinX4 3 (by decide) (index := 25) (ref := "ScaleHouse$Pairing") wd4 rfl (v := .ref (ad 8)) rfl dX4_pairOneMore_146 ?_
              refine lv_iload hx hb dX4_pairOneMore_149 (lv_at hl 6 rfl) ?_
              refine r_iald C h 8 rfl (i := (nI o)) (vp_in_nI (by omega) (by decide)) dX4_pairOneMore_151 ?_
              refine lv_cgi (y := (oI (bo o))) (nn_at (oF bo) (by omega)) ?_
              refine lv_iconst (v := -1) hx hb dX4_pairOneMore_152 (by decide) ?_
              refine lv_icmp_ne (tgt := 164) hx hb dX4_pairOneMore_153 (by decide) (fun c_153 => ?_) (fun c_153 => ?_)
              · obtain ⟨b1, e153⟩ : ∃ b1, bo o = some b1 := Option.ne_none_iff_exists'.mp (fun z => c_153 (by rw [z]; rfl))
                have hb1 := hM.1 o b1 (by omega) e153
                have b153 : ¬ bo o = none := by rw [e153]; simp
                refine lv_iload_n hx hb dX4_pairOneMore_164 rfl (lv_at hl 3 rfl) ?_
                refine lv_bipush (v := 20) hx hb dX4_pairOneMore_165 (by decide) ?_
                refine lv_icmp_ge (tgt := 186) hx hb dX4_pairOneMore_167 (by decide) (fun c_167 => ?_) (fun c_167 => ?_)
                · have n167 : ¬ n < 20 := fun z => absurd c_167 (nI_ge (b := 20) z (by decide))
                  refine lv_iinc (v := nI (o + 1)) (lv' := [(5, .int (nI (o + 1))), (6, .int 1), (0, .ref (ad 0)), (1, .int (nI ff)), (2, .int (nI n)), (3, .int (nI i)), (4, .int (nI row))]) hx hb dX4_pairOneMore_186 hl (k := 6) rfl (nI_1 _) (by decide) rfl (fun ls hl => ?_)
                  refine lv_goto (tgt := 73) hx hb dX4_pairOneMore_189 (by decide) ?_
                  exact ih (o + 1) (va_up rf o (some row)) wt n _ _ ls (by omega) (bK_rf hnb (by omega) hrow hrx hB) (fun o2 e2 => by obtain ⟨l2, r2, z⟩ := hrx o2 e2; exact ⟨l2, up_some z⟩) (by rw [← hz, bfI]; simp only [if_neg b97, if_pos r120, if_neg k130, if_neg b153, if_neg n167]) h (lv_sub hl [2, 3, 4, 5, 6, 0] rfl)
                · have n167 : n < 20 := nn_lt (b := 20) c_167 (by omega)
                  refine lv_aload_n hx hb dX4_pairOneMore_170 rfl (lv_at hl 1 rfl) ?_
                  refine r_get C h 0 rfl (Cn := RX4) (T := TX4) (N := 11) rfl hinX4 6 (by decide) (index := 34) (ref := "ScaleHouse$Pairing") wd5 rfl (v := .ref (ad 11)) rfl dX4_pairOneMore_171 ?_
                  refine lv_iload_n hx hb dX4_pairOneMore_174 rfl (lv_at hl 3 rfl) ?_
                  refine lv_aload_n hx hb dX4_pairOneMore_175 rfl (lv_at hl 1 rfl) ?_
                  refine r_get C h 0 rfl (Cn := RX4) (T := TX4) (N := 11) rfl hinX4 3 (by decide) (index := 25) (ref := "ScaleHouse$Pairing") wd4 rfl (v := .ref (ad 8)) rfl dX4_pairOneMore_176 ?_
                  refine lv_iload hx hb dX4_pairOneMore_179 (lv_at hl 6 rfl) ?_
                  refine r_iald C h 8 rfl (i := (nI o)) (vp_in_nI (by omega) (by decide)) dX4_pairOneMore_181 ?_
                  refine lv_cgi (y := (nI b1)) (by rw [nn_at (oF bo) (by omega), oF, e153, oI_s]) ?_
                  refine r_iast C h 11 rfl (i := (nI n)) (vp_in_nI n167 (by decide)) dX4_pairOneMore_182 (fun H locs h => ?_)
                  have h : gS G A s ([((ad 0), .inr (4, [.ref (ad 1), .ref (ad 4), .ref (ad 7), .ref (ad 8), .ref (ad 9), .ref (ad 10), .ref (ad 11), .int td, .int tl, .int fd, .int st])), ((ad 1), .inr (7, [.ref (ad 2), .ref (ad 3), .int (nI nb)])), ((ad 2), .inl (G.2.2 1, 20, .inl bd)), ((ad 3), .inl (G.2.2 1, 20, .inl bl)), ((ad 4), .inr (7, [.ref (ad 5), .ref (ad 6), .int (nI ns)])), ((ad 5), .inl (G.2.2 1, 20, .inl sd)), ((ad 6), .inl (G.2.2 1, 20, .inl sl)), ((ad 7), .inl (G.2.2 1, 20, .inl (oF so))), ((ad 8), .inl (G.2.2 1, 20, .inl (oF bo))), ((ad 9), .inl (G.2.2 1, 20, .inl ag)), ((ad 10), .inl (G.2.2 1, 20, .inl (oF (va_up rf o (some row))))), ((ad 11), .inl (G.2.2 1, 20, .inl (upd (nF wt) (nI n).toNatClampNeg (nI b1))))]) H locs := h
                  rw [show (upd (nF wt) (nI n).toNatClampNeg (nI b1)) = (nF (va_up wt n ((bo o).getD 0))) from by rw [nI_clamp (by omega), nF_up, e153, Option.getD_some]] at h
                  have h : gS G A s (pW G ad td tl fd st nb ns bd bl sd sl so bo ag (va_up rf o (some row)) (va_up wt n ((bo o).getD 0))) H locs := h
                  refine lv_iinc (v := nI (n + 1)) (lv' := [(2, .int (nI (n + 1))), (6, .int 1), (0, .ref (ad 0)), (1, .int (nI ff)), (3, .int (nI i)), (4, .int (nI row)), (5, .int (nI o))]) hx hb dX4_pairOneMore_183 hl (k := 3) rfl (nI_1 _) (by decide) rfl (fun ls hl => ?_)
                  refine lv_iinc (v := nI (o + 1)) (lv' := [(5, .int (nI (o + 1))), (2, .int (nI (n + 1))), (6, .int 1), (0, .ref (ad 0)), (1, .int (nI ff)), (3, .int (nI i)), (4, .int (nI row))]) hx hb dX4_pairOneMore_186 hl (k := 6) rfl (nI_1 _) (by decide) rfl (fun ls hl => ?_)
                  refine lv_goto (tgt := 73) hx hb dX4_pairOneMore_189 (by decide) ?_
                  exact ih (o + 1) (va_up rf o (some row)) (va_up wt n ((bo o).getD 0)) (n + 1) _ _ ls (by omega) (by rw [e153, Option.getD_some]; exact bK_wt n167 hb1.1 (fun o2 e2 => by rw [hb1.2.2] at e2; cases e2; exact ⟨by omega, row, by unfold va_up; rw [if_pos rfl]⟩) (bK_rf hnb (by omega) hrow hrx hB)) (fun o2 e2 => by obtain ⟨l2, r2, z⟩ := hrx o2 e2; exact ⟨l2, up_some z⟩) (by rw [← hz, bfI]; simp only [if_neg b97, if_pos r120, if_neg k130, if_neg b153, if_pos n167]) h (lv_sub hl [3, 4, 1, 5, 6, 0] rfl)
              · have b153 : bo o = none := (oI_m1 (fun k z => by have := (hM.1 o k (by omega) z).1; omega)).mp c_153
                have hz2 : (some o, va_up rf o (some row), wt, n) = z := by rw [← hz, bfI]; simp only [if_neg b97, if_pos r120, if_neg k130, if_pos b153]
                subst hz2
                exact kf _ _ ls o rfl (by omega) (bK_rf hnb (by omega) hrow hrx hB) ⟨row, up_at _ _ _⟩ h (lv_sub hl [1, 6] rfl)
            · have k130 : pKept bo o ff = true := Decidable.byContradiction (fun z => c_130 (by rw [if_neg z]))
              refine lv_goto (tgt := 186) hx hb dX4_pairOneMore_133 (by decide) ?_
              refine lv_iinc (v := nI (o + 1)) (lv' := [(5, .int (nI (o + 1))), (6, .int 1), (0, .ref (ad 0)), (1, .int (nI ff)), (2, .int (nI n)), (3, .int (nI i)), (4, .int (nI row))]) hx hb dX4_pairOneMore_186 hl (k := 6) rfl (nI_1 _) (by decide) rfl (fun ls hl => ?_)
              refine lv_goto (tgt := 73) hx hb dX4_pairOneMore_189 (by decide) ?_
              exact ih (o + 1) rf wt n _ _ ls (by omega) (hB) hrx (by rw [← hz, bfI]; simp only [if_neg b97, if_pos r120, if_pos k130]) h (lv_sub hl [2, 3, 4, 5, 6, 0] rfl)

set_option maxHeartbeats 4000000 in
set_option maxRecDepth 100000 in
theorem lp_X4_pom_out {p : Program} {l : Launch} {e : Env} {s : State} {m : MethodId} {args : Array Value} {below : List Frame} {meth : Method} {c : Code} {Q : State → Prop} {G : gG} {A : Nat → Prop} (C : gC p m c cX4_pairOneMore 7 s args wsX4_pairOneMore RX4 G A) (ad : Nat → Nat) (td tl fd st : Int32) (nb ns : Nat) (bd bl sd sl : Nat → Int32) (so bo : Nat → Option Nat) (ag : Nat → Int32) (ff : Nat) (z : BS) (hnb : nb ≤ 20) (hns : ns ≤ 20) (hff : ff ≤ 20) (hM : pM nb ns so bo) (kx : ∀ (H : Heap) (locs : List Loc) (ls : Array Slot), z.1 = none → gS G A s (pW G ad td tl fd st nb ns bd bl sd sl so bo ag z.2.1 z.2.2.1) H locs → W p l e (gR 2 70 0 0) s m args below meth c H locs 0 0 Q (F0 m 198 ls [])) (kf : ∀ (H : Heap) (locs : List Loc) (ls : Array Slot) (o : Nat), z.1 = some o → o < 20 → bK nb so z.2.1 z.2.2.1 z.2.2.2 → (∃ r1, z.2.1 o = some r1) → gS G A s (pW G ad td tl fd st nb ns bd bl sd sl so bo ag z.2.1 z.2.2.1) H locs → lv_has ls 7 [(0, .ref (ad 0)), (5, .int (nI o))] → W p l e (gR 2 70 0 0) s m args below meth c H locs 0 0 Q (F0 m 156 ls [])) :
    ∀ (r : Nat) (i : Nat) (rf : Nat → Option Nat) (wt : Nat → Nat) (n : Nat) (H : Heap) (locs : List Loc) (ls : Array Slot), (i + r = 20) → (bK nb so rf wt n) → (bfO ag bo ff ns r i rf wt n = z) →  gS G A s (pW G ad td tl fd st nb ns bd bl sd sl so bo ag rf wt) H locs → lv_has ls 7 [(0, .ref (ad 0)), (1, .int (nI ff)), (2, .int (nI n)), (3, .int (nI i))] → W p l e (gR 2 70 0 0) s m args below meth c H locs 0 0 Q (F0 m 51 ls []) := by
  have hx := C.1.1.1
  have hb := C.1.1.2.1
  have wd0 : Cond.fieldLink RX4 34 "ScaleHouse$Pairing" "waiting" "[I" ∈ wsX4_pairOneMore := by decide +kernel
  have hinX4 : ∀ w ∈ wsX40, w ∈ wsX4_pairOneMore := by decide +kernel
  intro r
  induction r with
  | zero =>
    intro i rf wt n H locs ls hi hB hz h hl
    have hn20 : n ≤ 20 := hB.2.2
    refine lv_iload_n hx hb dX4_pairOneMore_51 rfl (lv_at hl 3 rfl) ?_
    refine lv_iload_n hx hb dX4_pairOneMore_52 rfl (lv_at hl 2 rfl) ?_
    refine lv_icmp_ge (tgt := 198) hx hb dX4_pairOneMore_53 (by decide) (fun c_53 => ?_) (fun c_53 => ?_)
    · subst hz
      exact kx _ _ ls rfl h
    · refine lv_iload_n hx hb dX4_pairOneMore_56 rfl (lv_at hl 3 rfl) ?_
      refine lv_bipush (v := 20) hx hb dX4_pairOneMore_57 (by decide) ?_
      refine lv_icmp_ge (tgt := 198) hx hb dX4_pairOneMore_59 (by decide) (fun c_59 => ?_) (fun c_59 => ?_)
      · subst hz
        exact kx _ _ ls rfl h
      · exact absurd (by rw [show i = 20 by omega]; decide) c_59
  | succ r ih =>
    intro i rf wt n H locs ls hi hB hz h hl
    have hn20 : n ≤ 20 := hB.2.2
    refine lv_iload_n hx hb dX4_pairOneMore_51 rfl (lv_at hl 3 rfl) ?_
    refine lv_iload_n hx hb dX4_pairOneMore_52 rfl (lv_at hl 2 rfl) ?_
    refine lv_icmp_ge (tgt := 198) hx hb dX4_pairOneMore_53 (by decide) (fun c_53 => ?_) (fun c_53 => ?_)
    · have hge : ¬ i < n := fun z => absurd c_53 (nI_ge z (by omega))
      rw [bfO, if_neg hge] at hz
      subst hz
      exact kx _ _ ls rfl h
    · have hlt : i < n := nn_lt c_53 (by omega)
      refine lv_iload_n hx hb dX4_pairOneMore_56 rfl (lv_at hl 3 rfl) ?_
      refine lv_bipush (v := 20) hx hb dX4_pairOneMore_57 (by decide) ?_
      refine lv_icmp_ge (tgt := 198) hx hb dX4_pairOneMore_59 (by decide) (fun c_59 => ?_) (fun c_59 => ?_)
      · exact absurd c_59 (nI_ge (b := 20) (by omega) (by decide))
      · refine lv_aload_n hx hb dX4_pairOneMore_62 rfl (lv_at hl 0 rfl) ?_
        refine r_get C h 0 rfl (Cn := RX4) (T := TX4) (N := 11) rfl hinX4 6 (by decide) (index := 34) (ref := "ScaleHouse$Pairing") wd0 rfl (v := .ref (ad 11)) rfl dX4_pairOneMore_63 ?_
        refine lv_iload_n hx hb dX4_pairOneMore_66 rfl (lv_at hl 3 rfl) ?_
        refine r_iald C h 11 rfl (i := (nI i)) (vp_in_nI (by omega) (by decide)) dX4_pairOneMore_67 ?_
        refine lv_cgi (y := (nI (wt i))) (nn_at (nF wt) (by omega)) ?_
        refine lv_istore (lv' := [(4, .int (nI (wt i))), (0, .ref (ad 0)), (1, .int (nI ff)), (2, .int (nI n)), (3, .int (nI i))]) hx hb dX4_pairOneMore_68 hl (by decide) rfl (fun ls hl => ?_)
        refine lv_iconst (v := 0) hx hb dX4_pairOneMore_70 (by decide) ?_
        refine lv_istore (lv' := [(5, .int 0), (4, .int (nI (wt i))), (0, .ref (ad 0)), (1, .int (nI ff)), (2, .int (nI n)), (3, .int (nI i))]) hx hb dX4_pairOneMore_71 hl (by decide) rfl (fun ls hl => ?_)
        generalize hy : bfI ag bo ff (wt i) ns 0 rf wt n = y
        refine lp_X4_pom_in C ad td tl fd st nb ns bd bl sd sl so bo ag ff i (wt i) y hnb hns hff hM (hB.2.1 i hlt).1 (fun H locs ls e1 hB2 h hl => ?_) (fun H locs ls o e1 ho hB2 hr1 h hl => ?_) ns 0 rf wt n _ _ ls (by omega) hB (hB.2.1 i hlt).2 hy h (lv_sub hl [2, 3, 4, 5, 1, 0] rfl)
        · refine lv_iinc (v := nI (i + 1)) (lv' := [(3, .int (nI (i + 1))), (0, .ref (ad 0)), (1, .int (nI ff)), (2, .int (nI y.2.2.2))]) hx hb dX4_pairOneMore_192 hl (k := 3) rfl (nI_1 _) (by decide) rfl (fun ls hl => ?_)
          refine lv_goto (tgt := 51) hx hb dX4_pairOneMore_195 (by decide) ?_
          exact ih (i + 1) y.2.1 y.2.2.1 y.2.2.2 _ _ ls (by omega) hB2 (by rw [← hz, bfO, if_pos hlt]; simp only [hy, if_pos e1]) h (lv_sub hl [1, 2, 3, 0] rfl)
        · have hz2 : y = z := by rw [← hz, bfO, if_pos hlt, hy, if_neg (by rw [e1]; simp)]
          subst hz2
          exact kf _ _ ls o e1 ho hB2 hr1 h hl

set_option maxHeartbeats 4000000 in
set_option maxRecDepth 100000 in
theorem lp_X4_pom_w {p : Program} {l : Launch} {e : Env} {s : State} {m : MethodId} {args : Array Value} {below : List Frame} {meth : Method} {c : Code} {Q : State → Prop} {G : gG} {A : Nat → Prop} (C : gC p m c cX4_pairOneMore 7 s args wsX4_pairOneMore RX4 G A) (ad : Nat → Nat) (td tl fd st : Int32) (nb ns : Nat) (bd bl sd sl : Nat → Int32) (so bo : Nat → Option Nat) (ag : Nat → Int32) (ff : Nat) (rf : Nat → Option Nat) (z : (Nat → Nat) × Nat) (hnb : nb ≤ 20) (hM : pM nb ns so bo) (hns : ns ≤ 20) (kx : ∀ (H : Heap) (locs : List Loc) (ls : Array Slot), gS G A s (pW G ad td tl fd st nb ns bd bl sd sl so bo ag rf z.1) H locs → lv_has ls 7 [(0, .ref (ad 0)), (1, .int (nI ff)), (2, .int (nI z.2))] → W p l e (gR 2 70 0 0) s m args below meth c H locs 0 0 Q (F0 m 49 ls [])) :
    ∀ (r : Nat) (row : Nat) (wt : Nat → Nat) (n : Nat) (H : Heap) (locs : List Loc) (ls : Array Slot), (row + r = nb) → (n ≤ row) → (wtF so r row wt n = z) →  gS G A s (pW G ad td tl fd st nb ns bd bl sd sl so bo ag rf wt) H locs → lv_has ls 7 [(0, .ref (ad 0)), (1, .int (nI ff)), (2, .int (nI n)), (3, .int (nI row))] → W p l e (gR 2 70 0 0) s m args below meth c H locs 0 0 Q (F0 m 12 ls []) := by
  have hx := C.1.1.1
  have hb := C.1.1.2.1
  have wd0 : Cond.fieldLink RX4 12 "ScaleHouse$Pairing" "buyer" "LScaleHouse$Tally;" ∈ wsX4_pairOneMore := by decide +kernel
  have hinX4 : ∀ w ∈ wsX40, w ∈ wsX4_pairOneMore := by decide +kernel
  have wd1 : Cond.fieldLinkNest RX4 55 "ScaleHouse$Tally" "size" "I" "ScaleHouse" ∈ nW := by decide +kernel
  have hinX7 : ∀ w ∈ wsX70, w ∈ wsX4_pairOneMore := by decide +kernel
  have wd2 : Cond.fieldLink RX4 21 "ScaleHouse$Pairing" "sellerOf" "[I" ∈ wsX4_pairOneMore := by decide +kernel
  have wd3 : Cond.fieldLink RX4 34 "ScaleHouse$Pairing" "waiting" "[I" ∈ wsX4_pairOneMore := by decide +kernel
  intro r
  induction r with
  | zero =>
    intro row wt n H locs ls hi hn hz h hl
    refine lv_iload_n hx hb dX4_pairOneMore_12 rfl (lv_at hl 3 rfl) ?_
    refine lv_aload_n hx hb dX4_pairOneMore_13 rfl (lv_at hl 0 rfl) ?_
    refine r_get C h 0 rfl (Cn := RX4) (T := TX4) (N := 11) rfl hinX4 0 (by decide) (index := 12) (ref := "ScaleHouse$Pairing") wd0 rfl (v := .ref (ad 1)) rfl dX4_pairOneMore_14 ?_
    refine r_getN C h 1 rfl (Cn := RX7) (T := TX7) (N := 3) rfl hinX7 2 (by decide) (index := 55) (ref := "ScaleHouse$Tally") wd1 rfl (v := .int (nI nb)) rfl dX4_pairOneMore_17 ?_
    refine lv_icmp_ge (tgt := 49) hx hb dX4_pairOneMore_20 (by decide) (fun c_20 => ?_) (fun c_20 => ?_)
    · subst hz
      exact kx _ _ ls h (lv_sub hl [0, 1, 2] rfl)
    · exact absurd (by rw [show row = nb by omega]; exact Int32.le_refl _) c_20
  | succ r ih =>
    intro row wt n H locs ls hi hn hz h hl
    refine lv_iload_n hx hb dX4_pairOneMore_12 rfl (lv_at hl 3 rfl) ?_
    refine lv_aload_n hx hb dX4_pairOneMore_13 rfl (lv_at hl 0 rfl) ?_
    refine r_get C h 0 rfl (Cn := RX4) (T := TX4) (N := 11) rfl hinX4 0 (by decide) (index := 12) (ref := "ScaleHouse$Pairing") wd0 rfl (v := .ref (ad 1)) rfl dX4_pairOneMore_14 ?_
    refine r_getN C h 1 rfl (Cn := RX7) (T := TX7) (N := 3) rfl hinX7 2 (by decide) (index := 55) (ref := "ScaleHouse$Tally") wd1 rfl (v := .int (nI nb)) rfl dX4_pairOneMore_17 ?_
    refine lv_icmp_ge (tgt := 49) hx hb dX4_pairOneMore_20 (by decide) (fun c_20 => ?_) (fun c_20 => ?_)
    · exact absurd c_20 (nI_ge (by omega) (by omega))
    · refine lv_aload_n hx hb dX4_pairOneMore_23 rfl (lv_at hl 0 rfl) ?_
      refine r_get C h 0 rfl (Cn := RX4) (T := TX4) (N := 11) rfl hinX4 2 (by decide) (index := 21) (ref := "ScaleHouse$Pairing") wd2 rfl (v := .ref (ad 7)) rfl dX4_pairOneMore_24 ?_
      refine lv_iload_n hx hb dX4_pairOneMore_27 rfl (lv_at hl 3 rfl) ?_
      refine r_iald C h 7 rfl (i := (nI row)) (vp_in_nI (by omega) (by decide)) dX4_pairOneMore_28 ?_
      refine lv_cgi (y := (oI (so row))) (nn_at (oF so) (by omega)) ?_
      refine lv_iconst (v := -1) hx hb dX4_pairOneMore_29 (by decide) ?_
      refine lv_icmp_ne (tgt := 43) hx hb dX4_pairOneMore_30 (by decide) (fun c_30 => ?_) (fun c_30 => ?_)
      · have e30 : ¬ so row = none := fun z => c_30 (by rw [z]; rfl)
        refine lv_iinc (v := nI (row + 1)) (lv' := [(3, .int (nI (row + 1))), (0, .ref (ad 0)), (1, .int (nI ff)), (2, .int (nI n))]) hx hb dX4_pairOneMore_43 hl (k := 3) rfl (nI_1 _) (by decide) rfl (fun ls hl => ?_)
        refine lv_goto (tgt := 12) hx hb dX4_pairOneMore_46 (by decide) ?_
        exact ih (row + 1) wt n _ _ ls (by omega) (by omega) (by rw [← hz, wtF, if_neg e30]) h (lv_sub hl [1, 2, 3, 0] rfl)
      · have e30 : so row = none := (oI_m1 (fun k z => by have := (hM.2 row k (by omega) z).2.1; omega)).mp c_30
        refine lv_aload_n hx hb dX4_pairOneMore_33 rfl (lv_at hl 0 rfl) ?_
        refine r_get C h 0 rfl (Cn := RX4) (T := TX4) (N := 11) rfl hinX4 6 (by decide) (index := 34) (ref := "ScaleHouse$Pairing") wd3 rfl (v := .ref (ad 11)) rfl dX4_pairOneMore_34 ?_
        refine lv_iload_n hx hb dX4_pairOneMore_37 rfl (lv_at hl 2 rfl) ?_
        refine lv_iload_n hx hb dX4_pairOneMore_38 rfl (lv_at hl 3 rfl) ?_
        refine r_iast C h 11 rfl (i := (nI n)) (vp_in_nI (by omega) (by decide)) dX4_pairOneMore_39 (fun H locs h => ?_)
        have h : gS G A s ([((ad 0), .inr (4, [.ref (ad 1), .ref (ad 4), .ref (ad 7), .ref (ad 8), .ref (ad 9), .ref (ad 10), .ref (ad 11), .int td, .int tl, .int fd, .int st])), ((ad 1), .inr (7, [.ref (ad 2), .ref (ad 3), .int (nI nb)])), ((ad 2), .inl (G.2.2 1, 20, .inl bd)), ((ad 3), .inl (G.2.2 1, 20, .inl bl)), ((ad 4), .inr (7, [.ref (ad 5), .ref (ad 6), .int (nI ns)])), ((ad 5), .inl (G.2.2 1, 20, .inl sd)), ((ad 6), .inl (G.2.2 1, 20, .inl sl)), ((ad 7), .inl (G.2.2 1, 20, .inl (oF so))), ((ad 8), .inl (G.2.2 1, 20, .inl (oF bo))), ((ad 9), .inl (G.2.2 1, 20, .inl ag)), ((ad 10), .inl (G.2.2 1, 20, .inl (oF rf))), ((ad 11), .inl (G.2.2 1, 20, .inl (upd (nF wt) (nI n).toNatClampNeg (nI row))))]) H locs := h
        rw [show (upd (nF wt) (nI n).toNatClampNeg (nI row)) = (nF (va_up wt n row)) from by rw [nI_clamp (by omega), nF_up]] at h
        have h : gS G A s (pW G ad td tl fd st nb ns bd bl sd sl so bo ag rf (va_up wt n row)) H locs := h
        refine lv_iinc (v := nI (n + 1)) (lv' := [(2, .int (nI (n + 1))), (0, .ref (ad 0)), (1, .int (nI ff)), (3, .int (nI row))]) hx hb dX4_pairOneMore_40 hl (k := 2) rfl (nI_1 _) (by decide) rfl (fun ls hl => ?_)
        refine lv_iinc (v := nI (row + 1)) (lv' := [(3, .int (nI (row + 1))), (2, .int (nI (n + 1))), (0, .ref (ad 0)), (1, .int (nI ff))]) hx hb dX4_pairOneMore_43 hl (k := 3) rfl (nI_1 _) (by decide) rfl (fun ls hl => ?_)
        refine lv_goto (tgt := 12) hx hb dX4_pairOneMore_46 (by decide) ?_
        exact ih (row + 1) (va_up wt n row) (n + 1) _ _ ls (by omega) (by omega) (by rw [← hz, wtF, if_pos e30]) h (lv_sub hl [2, 3, 1, 0] rfl)

theorem wtF_ok (so : Nat → Option Nat) (nb : Nat) : ∀ (r row : Nat) (wt : Nat → Nat) (n : Nat), row + r = nb → n ≤ row → (∀ j, j < n → wt j < nb ∧ so (wt j) = none) → (∀ j, j < (wtF so r row wt n).2 → (wtF so r row wt n).1 j < nb ∧ so ((wtF so r row wt n).1 j) = none) ∧ (wtF so r row wt n).2 ≤ nb
  | 0, row, wt, n, h1, h2, h3 => ⟨h3, by show n ≤ nb; omega⟩
  | r + 1, row, wt, n, h1, h2, h3 => by
    unfold wtF
    split
    · next q =>
      refine wtF_ok so nb r (row + 1) _ _ (by omega) (by omega) (fun j hj => ?_)
      unfold va_up
      split
      · exact ⟨by omega, q⟩
      · exact h3 j (by omega)
    · exact wtF_ok so nb r (row + 1) _ _ (by omega) (by omega) h3
/-- a try to pair one more: the search, then the pairs as they are behind it -/
def pmS (so bo : Nat → Option Nat) (ag : Nat → Int32) (nb ns ff : Nat) (rf : Nat → Option Nat) (wt : Nat → Nat) : BS := bfO ag bo ff ns 20 0 (fun j => if j < 20 then none else rf j) (wtF so (nb - ff) ff wt 0).1 (wtF so (nb - ff) ff wt 0).2
def pmR (so bo : Nat → Option Nat) (z : BS) : (Nat → Option Nat) × (Nat → Option Nat) := if z.1 = none then (so, bo) else jbF z.2.1 20 z.1 so bo

set_option maxHeartbeats 4000000 in
set_option maxRecDepth 100000 in
theorem p_pairOneMore (l : Launch) (G : gG) (ad : Nat → Nat) (td tl fd st : Int32) (nb ns : Nat) (bd bl sd sl : Nat → Int32) (so bo : Nat → Option Nat) (ag : Nat → Int32) (rf : Nat → Option Nat) (wt : Nat → Nat) (ff : Nat) (hnb : nb ≤ 20) (hns : ns ≤ 20) (hff : ff ≤ nb) (hM : pM nb ns so bo) : cM l yX4_pairOneMore wsX4_pairOneMore 2 70 (0) (0) G [.ref (ad 0), .int (nI ff)] (pW G ad td tl fd st nb ns bd bl sd sl so bo ag rf wt) (qI G (S := Unit) (fun r _ => r = if (pmS so bo ag nb ns ff rf wt).1 = none then 0 else 1) (fun _ => pW G ad td tl fd st nb ns bd bl sd sl ((pmR so bo (pmS so bo ag nb ns ff rf wt)).1) ((pmR so bo (pmS so bo ag nb ns ff rf wt)).2) ag ((pmS so bo ag nb ns ff rf wt).2.1) ((pmS so bo ag nb ns ff rf wt).2.2.1))) := by
  refine o_M (cc := cX4_pairOneMore) (maxL := 7) (ret := (some .boolean)) (own := RX4) (by decide +kernel) rfl rfl (Nat.le_of_ble_eq_true rfl) ?_
  intro p e s m below meth c A ls H locs hA C h hr hlk hnm hl
  have hx := C.1.1.1
  have hb := C.1.1.2.1
  have hl : lv_has ls 7 [(0, .ref (ad 0)), (1, .int (nI ff))] := hl
  have wd0 : Cond.fieldLink RX4 31 "ScaleHouse$Pairing" "reachedFrom" "[I" ∈ wsX4_pairOneMore := by decide +kernel
  have hinX4 : ∀ w ∈ wsX40, w ∈ wsX4_pairOneMore := by decide +kernel
  refine lv_aload_n hx hb dX4_pairOneMore_0 rfl (lv_at hl 0 rfl) ?_
  refine r_get C h 0 rfl (Cn := RX4) (T := TX4) (N := 11) rfl hinX4 5 (by decide) (index := 31) (ref := "ScaleHouse$Pairing") wd0 rfl (v := .ref (ad 10)) rfl dX4_pairOneMore_1 ?_
  refine lv_iconst (v := -1) hx hb dX4_pairOneMore_4 (by decide) ?_
  have hp : List.Perm (pW G ad td tl fd st nb ns bd bl sd sl so bo ag rf wt : va_W) ([((ad 10), .inl (G.2.2 1, 20, .inl (oF rf)))] ++ [((ad 0), .inr (4, [.ref (ad 1), .ref (ad 4), .ref (ad 7), .ref (ad 8), .ref (ad 9), .ref (ad 10), .ref (ad 11), .int td, .int tl, .int fd, .int st])), ((ad 1), .inr (7, [.ref (ad 2), .ref (ad 3), .int (nI nb)])), ((ad 2), .inl (G.2.2 1, 20, .inl bd)), ((ad 3), .inl (G.2.2 1, 20, .inl bl)), ((ad 4), .inr (7, [.ref (ad 5), .ref (ad 6), .int (nI ns)])), ((ad 5), .inl (G.2.2 1, 20, .inl sd)), ((ad 6), .inl (G.2.2 1, 20, .inl sl)), ((ad 7), .inl (G.2.2 1, 20, .inl (oF so))), ((ad 8), .inl (G.2.2 1, 20, .inl (oF bo))), ((ad 9), .inl (G.2.2 1, 20, .inl ag)), ((ad 11), .inl (G.2.2 1, 20, .inl (nF wt)))]) := pm 12 rfl [10, 0, 1, 2, 3, 4, 5, 6, 7, 8, 9, 11] (by decide +kernel) rfl
  refine k_v C h hp (r_runS C h hp (As := [.ref (ad 10), .int (-1)]) (rest := []) (j_fill l G (ad 10) 20 (oF rf) (-1) (by decide)) (va_cwS 2 C.1.1.2.2.2.2 gX4_pairOneMore_J7_fill_53178 rfl rfl rfl (by decide +kernel) ⟨Nat.le_of_ble_eq_true rfl, Nat.le_of_ble_eq_true rfl⟩) rfl hl.1 (Nat.le_of_ble_eq_true rfl) dX4_pairOneMore_5 ⟨Nat.le_of_ble_eq_true rfl, Nat.le_of_ble_eq_true rfl⟩) (fun u_2 H locs hw_3 h => ?_)
  rw [oF_fl] at h
  have h : gS G A s ([((ad 10), .inl (G.2.2 1, 20, .inl (oF (fun j => if j < 20 then none else rf j))))] ++ [((ad 0), .inr (4, [.ref (ad 1), .ref (ad 4), .ref (ad 7), .ref (ad 8), .ref (ad 9), .ref (ad 10), .ref (ad 11), .int td, .int tl, .int fd, .int st])), ((ad 1), .inr (7, [.ref (ad 2), .ref (ad 3), .int (nI nb)])), ((ad 2), .inl (G.2.2 1, 20, .inl bd)), ((ad 3), .inl (G.2.2 1, 20, .inl bl)), ((ad 4), .inr (7, [.ref (ad 5), .ref (ad 6), .int (nI ns)])), ((ad 5), .inl (G.2.2 1, 20, .inl sd)), ((ad 6), .inl (G.2.2 1, 20, .inl sl)), ((ad 7), .inl (G.2.2 1, 20, .inl (oF so))), ((ad 8), .inl (G.2.2 1, 20, .inl (oF bo))), ((ad 9), .inl (G.2.2 1, 20, .inl ag)), ((ad 11), .inl (G.2.2 1, 20, .inl (nF wt)))]) H locs := h
  have h := gS.perm h (pm 12 rfl [1, 2, 3, 4, 5, 6, 7, 8, 9, 10, 0, 11] (by decide +kernel) rfl : List.Perm ([((ad 10), .inl (G.2.2 1, 20, .inl (oF (fun j => if j < 20 then none else rf j))))] ++ [((ad 0), .inr (4, [.ref (ad 1), .ref (ad 4), .ref (ad 7), .ref (ad 8), .ref (ad 9), .ref (ad 10), .ref (ad 11), .int td, .int tl, .int fd, .int st])), ((ad 1), .inr (7, [.ref (ad 2), .ref (ad 3), .int (nI nb)])), ((ad 2), .inl (G.2.2 1, 20, .inl bd)), ((ad 3), .inl (G.2.2 1, 20, .inl bl)), ((ad 4), .inr (7, [.ref (ad 5), .ref (ad 6), .int (nI ns)])), ((ad 5), .inl (G.2.2 1, 20, .inl sd)), ((ad 6), .inl (G.2.2 1, 20, .inl sl)), ((ad 7), .inl (G.2.2 1, 20, .inl (oF so))), ((ad 8), .inl (G.2.2 1, 20, .inl (oF bo))), ((ad 9), .inl (G.2.2 1, 20, .inl ag)), ((ad 11), .inl (G.2.2 1, 20, .inl (nF wt)))] : va_W) (pW G ad td tl fd st nb ns bd bl sd sl so bo ag (fun j => if j < 20 then none else rf j) wt))
  have h : gS G A s (pW G ad td tl fd st nb ns bd bl sd sl so bo ag (fun j => if j < 20 then none else rf j) wt) H locs := h
  refine W.widen (k := 0) (n := 0) (Nat.le_of_ble_eq_true rfl) (Nat.le_of_ble_eq_true rfl) ?_
  refine lv_iconst (v := 0) hx hb dX4_pairOneMore_8 (by decide) ?_
  refine lv_istore_n (lv' := [(2, .int 0), (0, .ref (ad 0)), (1, .int (nI ff))]) hx hb dX4_pairOneMore_9 rfl hl (by decide) rfl (fun ls hl => ?_)
  refine lv_iload_n hx hb dX4_pairOneMore_10 rfl (lv_at hl 2 rfl) ?_
  refine lv_istore_n (lv' := [(3, .int (nI ff)), (2, .int 0), (0, .ref (ad 0)), (1, .int (nI ff))]) hx hb dX4_pairOneMore_11 rfl hl (by decide) rfl (fun ls hl => ?_)
  have hw1 := wtF_ok so nb (nb - ff) ff wt 0 (by omega) (by omega) (fun j hj => absurd hj (Nat.not_lt_zero j))
  refine lp_X4_pom_w C ad td tl fd st nb ns bd bl sd sl so bo ag ff _ (wtF so (nb - ff) ff wt 0) hnb hM hns (fun H locs ls h hl => ?_) (nb - ff) ff wt 0 _ _ ls (by omega) (by omega) rfl h (lv_sub hl [2, 3, 1, 0] rfl)
  generalize hyw : wtF so (nb - ff) ff wt 0 = w1 at h hl hw1
  have hB : bK nb so (fun j => if j < 20 then none else rf j) w1.1 w1.2 := ⟨fun o r l1 e1 => absurd e1 (by simp [l1]), fun j hj => ⟨(hw1.1 j hj).1, fun o2 e2 => absurd e2 (by rw [(hw1.1 j hj).2]; simp)⟩, by omega⟩
  refine lv_iconst (v := 0) hx hb dX4_pairOneMore_49 (by decide) ?_
  refine lv_istore_n (lv' := [(3, .int 0), (0, .ref (ad 0)), (1, .int (nI ff)), (2, .int (nI w1.2))]) hx hb dX4_pairOneMore_50 rfl hl (by decide) rfl (fun ls hl => ?_)
  generalize hy : bfO ag bo ff ns 20 0 (fun j => if j < 20 then none else rf j) w1.1 w1.2 = y
  have hy2 : pmS so bo ag nb ns ff rf wt = y := by rw [← hy, ← hyw]; rfl
  refine lp_X4_pom_out C ad td tl fd st nb ns bd bl sd sl so bo ag ff y hnb hns (by omega) hM (fun H locs ls e1 h => ?_) (fun H locs ls o e1 ho hB2 hr1 h hl => ?_) 20 0 _ _ _ _ _ ls (by omega) hB hy h (lv_sub hl [1, 2, 3, 0] rfl)
  · rw [hy2]
    refine lv_iconst (v := 0) hx hb dX4_pairOneMore_198 (by decide) ?_
    exact r_zret C h hr hlk (Nat.zero_le _) (Nat.zero_le _) (Or.inl rfl) () (by rw [e1]; rfl) (by rw [pmR, if_pos e1]) dX4_pairOneMore_199
  · rw [hy2]
    refine lv_aload_n hx hb dX4_pairOneMore_156 rfl (lv_at hl 0 rfl) ?_
    refine lv_iload hx hb dX4_pairOneMore_157 (lv_at hl 1 rfl) ?_
    have hp : List.Perm (pW G ad td tl fd st nb ns bd bl sd sl so bo ag y.2.1 y.2.2.1 : va_W) ([((ad 0), .inr (4, [.ref (ad 1), .ref (ad 4), .ref (ad 7), .ref (ad 8), .ref (ad 9), .ref (ad 10), .ref (ad 11), .int td, .int tl, .int fd, .int st])), ((ad 1), .inr (7, [.ref (ad 2), .ref (ad 3), .int (nI nb)])), ((ad 2), .inl (G.2.2 1, 20, .inl bd)), ((ad 3), .inl (G.2.2 1, 20, .inl bl)), ((ad 4), .inr (7, [.ref (ad 5), .ref (ad 6), .int (nI ns)])), ((ad 5), .inl (G.2.2 1, 20, .inl sd)), ((ad 6), .inl (G.2.2 1, 20, .inl sl)), ((ad 7), .inl (G.2.2 1, 20, .inl (oF so))), ((ad 8), .inl (G.2.2 1, 20, .inl (oF bo))), ((ad 9), .inl (G.2.2 1, 20, .inl ag)), ((ad 10), .inl (G.2.2 1, 20, .inl (oF y.2.1))), ((ad 11), .inl (G.2.2 1, 20, .inl (nF y.2.2.1)))] ++ []) := pm 12 rfl [0, 1, 2, 3, 4, 5, 6, 7, 8, 9, 10, 11] (by decide +kernel) rfl
    refine k_v C h hp (r_runV C h hp 0 rfl rfl (As := [.int (nI o)]) (rest := []) (p_joinBackFrom l G ad td tl fd st nb ns bd bl sd sl so bo ag y.2.1 y.2.2.1 o hB2.1 ⟨ho, hr1⟩) (cwV 1 C.1.1.2.2.2.2 gX4_pairOneMore_X4_joinBackFrom rfl rfl rfl (by decide +kernel) ⟨Nat.le_of_ble_eq_true rfl, Nat.le_of_ble_eq_true rfl⟩) rfl hl.1 (Nat.le_of_ble_eq_true rfl) dX4_pairOneMore_159 ⟨Nat.le_of_ble_eq_true rfl, Nat.le_of_ble_eq_true rfl⟩) (fun u_2 H locs hw_3 h => ?_)
    have h : gS G A s (pW G ad td tl fd st nb ns bd bl sd sl ((jbF y.2.1 20 (some o) so bo).1) ((jbF y.2.1 20 (some o) so bo).2) ag y.2.1 y.2.2.1) H locs := h
    refine W.widen (k := 0) (n := 0) (Nat.le_of_ble_eq_true rfl) (Nat.le_of_ble_eq_true rfl) ?_
    refine lv_iconst (v := 1) hx hb dX4_pairOneMore_162 (by decide) ?_
    exact r_zret C h hr hlk (Nat.zero_le _) (Nat.zero_le _) (Or.inr rfl) () (by rw [e1]; rfl) (by rw [pmR, if_neg (by rw [e1]; simp), e1]) dX4_pairOneMore_163
