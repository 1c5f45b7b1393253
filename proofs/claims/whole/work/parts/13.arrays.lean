section GA
variable {p : Program} {l : Launch} {e : Env} {R : Room} {s : State} {m : MethodId} {args : Array Value} {below : List Frame} {meth : Method} {c : Code} {H : Heap} {locs : List Loc} {cells slots : Nat} {Q : State → Prop} {cc : ByteArray} {nL : Nat} {Ts : List Cond} {own : String} {G : gG} {A : Nat → Prop} {ws : va_W} {pc : Nat} {ls : Array Slot} {rest : List Value}
theorem r_isI (C : gC p m c cc nL s args Ts own G A) : s.vm.findClass "[I" = some (G.2.2 1) := (C.1.2.1.2 1 _ rfl).2
theorem r_clone (C : gC p m c cc nL s args Ts own G A) (h : gS G A s ws H locs) (q0 : Nat) {a n : Nat} {f : Nat → Int32} (ha : ws[q0]? = some (a, .inl (G.2.2 1, n, .inl f))) {index : Nat}
    (h1 : Cond.methodLink own index ⟨"[I", "clone", "()Ljava/lang/Object;"⟩ ∈ Ts) (h2 : Cond.sameMethod "[I" "java/lang/Object" "clone" "()Ljava/lang/Object;" ∈ Ts) (h3 : Cond.native ⟨"java/lang/Object", "clone", "()Ljava/lang/Object;"⟩ ∈ Ts) (h4 : Cond.instanceMethod ⟨"java/lang/Object", "clone", "()Ljava/lang/Object;"⟩ ∈ Ts) (h5 : Cond.selects "[I" ⟨"[I", "clone", "()Ljava/lang/Object;"⟩ ⟨"java/lang/Object", "clone", "()Ljava/lang/Object;"⟩ ∈ Ts)
    (hsz : ls.size = nL) (hfr : 1 ≤ R.frames) (hlo : (rest.map fun v => v.category).sum + 14 ≤ R.locals) (hcells : cells + 1 ≤ R.cells) (hslots : slots + n ≤ R.slots) (hdg : decode cc pc = .ok (.invokevirtual index, 3))
    (kk : ∀ (q : Nat) (H1 : Heap), gS G A s (ws ++ [(q, .inl (G.2.2 1, n, .inl f))]) H1 locs → W p l e R s m args below meth c H1 locs (cells + 1) (slots + n) Q (F0 m (pc + 3) ls (.ref q :: rest))) : W p l e R s m args below meth c H locs cells slots Q (F0 m pc ls (.ref a :: rest)) :=
  va_clone C.1.1.1 C.1.1.2.1 (C.1.1.2.2.1.trans hsz.symm) C.1.1.2.2.2.1 (C.1.1.2.2.2.2 _ h1) (C.1.1.2.2.2.2 _ h2) (C.1.1.2.2.2.2 _ h3) (C.1.1.2.2.2.2 _ h4) (C.1.1.2.2.2.2 _ h5) (C.1.2.2 _ (by decide +kernel)) C.1.2.1 h.1 h.2.1 h.2.2 C.2 q0 1 ha rfl (r_isI C) (va_fit (fun _ _ => rfl)) hfr hlo hcells hslots hdg (fun q H1 _ b1 b2 b3 => kk q H1 ⟨b1, b2, b3⟩)
theorem r_castI (C : gC p m c cc nL s args Ts own G A) (h : gS G A s ws H locs) (q0 : Nat) {a : Nat} {x : vp_A} (ha : ws[q0]? = some (a, .inl (G.2.2 1, x))) {index : Nat} (h1 : Cond.classLink own index "[I" ∈ Ts) (hdg : decode cc pc = .ok (.checkcast index, 3))
    (kk : W p l e R s m args below meth c H locs cells slots Q (F0 m (pc + 3) ls (.ref a :: rest))) : W p l e R s m args below meth c H locs cells slots Q (F0 m pc ls (.ref a :: rest)) :=
  va_castA C.1.1.1 C.1.1.2.1 C.1.1.2.2.2.1 (C.1.1.2.2.2.2 _ h1) h.1 q0 ha (r_isI C) hdg kk
theorem r_copy (C : gC p m c cc nL s args Ts own G A) (h : gS G A s ws H locs) (q0 q1 : Nat) {a a0 n0 n1 : Nat} {f g : Nat → Int32} (ha0 : ws[q0]? = some (a0, .inl (G.2.2 1, n0, .inl f))) (ha1 : ws[q1]? = some (a, .inl (G.2.2 1, n1, .inl g))) {index : Nat}
    (h1 : Cond.methodLink own index arraycopyName ∈ Ts) (h2 : Cond.native arraycopyName ∈ Ts) (h3 : Cond.static arraycopyName ∈ Ts) (h4 : Cond.initialized "java/lang/System" ∈ Ts) (hsz : ls.size = nL) {sp dp n : Int32} (g1 : ¬ sp < 0) (g2 : ¬ dp < 0) (g3 : ¬ n < 0) (g4 : sp.toNatClampNeg + n.toNatClampNeg ≤ n0) (g5 : dp.toNatClampNeg + n.toNatClampNeg ≤ n1)
    (hfr : 1 ≤ R.frames) (hlo : (rest.map fun v => v.category).sum + (nativeFrameWords "java/lang/System" "arraycopy" 5 + 11) ≤ R.locals) (hdg : decode cc pc = .ok (.invokestatic index, 3))
    (kk : ∀ (H1 : Heap) (locs1 : List Loc), gS G A s (ws.set q1 (a, .inl (G.2.2 1, n1, .inl (va_cpy f g sp.toNatClampNeg dp.toNatClampNeg n.toNatClampNeg)))) H1 locs1 → W p l e R s m args below meth c H1 locs1 cells slots Q (F0 m (pc + 3) ls rest)) : W p l e R s m args below meth c H locs cells slots Q (F0 m pc ls (.int n :: .int dp :: .ref a :: .int sp :: .ref a0 :: rest)) :=
  va_copyi C.1.1.1 C.1.1.2.1 (C.1.1.2.2.1.trans hsz.symm) C.1.1.2.2.2.1 (C.1.1.2.2.2.2 _ h1) (C.1.1.2.2.2.2 _ h2) (C.1.1.2.2.2.2 _ h3) (C.1.1.2.2.2.2 _ h4) C.1.2.1 h.1 h.2.1 h.2.2 q0 q1 1 1 ha0 ha1 rfl rfl rfl g1 g2 g3 g4 g5 (fun _ _ => rfl) hfr hlo hdg (fun H1 locs1 b1 b2 b3 => kk H1 locs1 ⟨b1, b2, b3⟩)
theorem gS.keep {wc wr : va_W} (h : gS G A s ws H locs) (hp : ws.Perm (wc ++ wr)) : gS G A s wc H locs := by
  obtain ⟨h1, h2, h3⟩ := h.perm hp
  have e : ∀ (k : Nat) (q : Nat × va_E), wc[k]? = some q → (wc ++ wr)[k]? = some q := fun k q hk => by
    rw [List.getElem?_append_left (List.getElem?_eq_some_iff.mp hk).1]; exact hk
  exact ⟨fun k q hk => h1 k q (e k q hk), ⟨fun i j x y hi hj he => h2.1 i j x y (e i x hi) (e j y hj) he, fun k q hk => h2.2 k q (e k q hk)⟩, h3⟩
end GA
/-- a row filled up to n -/
theorem nn_min {a b : Nat} (ha : a < 2 ^ 31) (hb : b < 2 ^ 31) : (if nI b < nI a then nI b else nI a) = nI (min a b) := by
  by_cases z : b < a
  · rw [if_pos (nI_lt z ha), Nat.min_eq_right (Nat.le_of_lt z)]
  · rw [Nat.min_eq_left (Nat.le_of_not_lt z), if_neg (nI_nlt (Nat.le_of_not_lt z) hb)]
def flF (v : Int32) (n : Nat) (f : Nat → Int32) : Nat → Int32 := fun j => if j < n then v else f j
theorem flF_0 (v : Int32) (f : Nat → Int32) : flF v 0 f = f := rfl
theorem flF_s (v : Int32) (n : Nat) (f : Nat → Int32) : upd (flF v n f) n v = flF v (n + 1) f := by
  funext j
  unfold flF upd
  by_cases h1 : j = n
  · subst h1; simp
  · simp only [h1, ↓reduceIte]
    by_cases h2 : j < n
    · simp [h2, Nat.lt_succ_of_lt h2]
    · rw [if_neg h2, if_neg (by omega)]

set_option maxHeartbeats 4000000 in
set_option maxRecDepth 100000 in
theorem lp_fill {p : Program} {l : Launch} {e : Env} {R : Room} {s : State} {m : MethodId} {args : Array Value} {below : List Frame} {meth : Method} {c : Code} {cells slots : Nat} {Q : State → Prop} {G : gG} {A : Nat → Prop} (C : gC p m c cJ7_fill_53178 4 s args wsJ7_fill_53178 RJ7 G A) (h0 n : Nat) (f : Nat → Int32) (v : Int32) (hn : n < 2 ^ 31) (kx : ∀ (H : Heap) (locs : List Loc) (ls : Array Slot), gS G A s ([(h0, .inl (G.2.2 1, n, .inl (flF v n f)))]) H locs → W p l e R s m args below meth c H locs cells slots Q (F0 m 20 ls [])) :
    ∀ (r : Nat) (i : Nat) (H : Heap) (locs : List Loc) (ls : Array Slot), (i + r = n) →  gS G A s ([(h0, .inl (G.2.2 1, n, .inl (flF v i f)))]) H locs → lv_has ls 4 [(0, .ref h0), (1, .int v), (2, .int (nI i)), (3, .int (nI n))] → W p l e R s m args below meth c H locs cells slots Q (F0 m 5 ls []) := by
  have hx := C.1.1.1
  have hb := C.1.1.2.1
  intro r
  induction r with
  | zero =>
    intro i H locs ls hi h hl
    refine lv_iload_n hx hb dJ7_fill_53178_5 rfl (lv_at hl 2 rfl) ?_
    refine lv_iload_n hx hb dJ7_fill_53178_6 rfl (lv_at hl 3 rfl) ?_
    refine lv_icmp_ge (tgt := 20) hx hb dJ7_fill_53178_7 (by decide) (fun c_7 => ?_) (fun c_7 => ?_)
    · obtain rfl : i = n := by omega
      exact kx _ _ ls h
    · exact absurd (by rw [show i = n by omega]; exact Int32.le_refl _) c_7
  | succ r ih =>
    intro i H locs ls hi h hl
    refine lv_iload_n hx hb dJ7_fill_53178_5 rfl (lv_at hl 2 rfl) ?_
    refine lv_iload_n hx hb dJ7_fill_53178_6 rfl (lv_at hl 3 rfl) ?_
    refine lv_icmp_ge (tgt := 20) hx hb dJ7_fill_53178_7 (by decide) (fun c_7 => ?_) (fun c_7 => ?_)
    · exact absurd c_7 (nI_ge (by omega) (by omega))
    · refine lv_aload_n hx hb dJ7_fill_53178_10 rfl (lv_at hl 0 rfl) ?_
      refine lv_iload_n hx hb dJ7_fill_53178_11 rfl (lv_at hl 2 rfl) ?_
      refine lv_iload_n hx hb dJ7_fill_53178_12 rfl (lv_at hl 1 rfl) ?_
      refine r_iast C h 0 rfl (i := (nI i)) (vp_in_nI (by omega) hn) dJ7_fill_53178_13 (fun H locs h => ?_)
      have h : gS G A s ([(h0, .inl (G.2.2 1, n, .inl (upd (flF v i f) (nI i).toNatClampNeg v)))]) H locs := h
      rw [show (upd (flF v i f) (nI i).toNatClampNeg v) = (flF v (i + 1) f) from by rw [nI_clamp (by omega), flF_s]] at h
      have h : gS G A s ([(h0, .inl (G.2.2 1, n, .inl (flF v (i + 1) f)))]) H locs := h
      obtain ⟨x_1, ex_1⟩ : ∃ y : Int32, y = (nI i) + 1 := ⟨_, rfl⟩
      refine lv_iinc (v := x_1) (lv' := [(2, .int x_1), (0, .ref h0), (1, .int v), (3, .int (nI n))]) hx hb dJ7_fill_53178_14 hl (k := 2) rfl (by rw [ex_1]; rfl) (by decide) rfl (fun ls hl => ?_)
      refine lv_goto (tgt := 5) hx hb dJ7_fill_53178_17 (by decide) ?_
      exact ih (i + 1) _ _ ls (by omega) h (by rw [← nI_1, ← ex_1]; exact lv_sub hl [1, 2, 0, 3] rfl)

set_option maxHeartbeats 4000000 in
set_option maxRecDepth 100000 in
theorem j_fill (l : Launch) (G : gG) (h0 n : Nat) (f : Nat → Int32) (v : Int32) (hn : n < 2 ^ 31) : cM l yJ7_fill_53178 wsJ7_fill_53178 0 0 (0) (0) G [.ref h0, .int v] ([(h0, .inl (G.2.2 1, n, .inl f))]) (qV G (S := Unit) (fun _ => True) (fun _ => [(h0, .inl (G.2.2 1, n, .inl (flF v n f)))])) := by
  refine o_M (cc := cJ7_fill_53178) (maxL := 4) (ret := none) (own := RJ7) (by decide +kernel) rfl rfl (Nat.le_of_ble_eq_true rfl) ?_
  intro p e s m below meth c A ls H locs hA C h hr hlk hnm hl
  have hx := C.1.1.1
  have hb := C.1.1.2.1
  have hl : lv_has ls 4 [(0, .ref h0), (1, .int v)] := hl
  refine lv_iconst (v := 0) hx hb dJ7_fill_53178_0 (by decide) ?_
  refine lv_istore_n (lv' := [(2, .int 0), (0, .ref h0), (1, .int v)]) hx hb dJ7_fill_53178_1 rfl hl (by decide) rfl (fun ls hl => ?_)
  refine lv_aload_n hx hb dJ7_fill_53178_2 rfl (lv_at hl 1 rfl) ?_
  refine r_alen C h 0 1 rfl rfl dJ7_fill_53178_3 ?_
  refine lv_istore_n (lv' := [(3, .int (nI n)), (2, .int 0), (0, .ref h0), (1, .int v)]) hx hb dJ7_fill_53178_4 rfl hl (by decide) rfl (fun ls hl => ?_)
  refine lp_fill C h0 n f v hn (fun H locs ls h => ?_) n 0 _ _ ls (by omega) h (lv_sub hl [2, 3, 1, 0] rfl)
  exact r_vret C h hr hlk (Nat.zero_le _) (Nat.zero_le _) () trivial rfl dJ7_fill_53178_20

set_option maxHeartbeats 4000000 in
set_option maxRecDepth 100000 in
theorem j_copyOf (l : Launch) (G : gG) (h0 n k : Nat) (f : Nat → Int32) (hn : n ≤ 20000) (hk : k ≤ 20000) : cM l yJ7_copyOf_59c91 wsJ7_copyOf_59c91 1 60 (1) (k) G [.ref h0, .int (nI k)] ([(h0, .inl (G.2.2 1, n, .inl f))]) (qR G (S := Nat → Int32) (fun g => ∀ j, j < n → j < k → g j = f j) (fun g q => [(h0, .inl (G.2.2 1, n, .inl f)), (q, .inl (G.2.2 1, k, .inl g))])) := by
  refine o_M (cc := cJ7_copyOf_59c91) (maxL := 3) (ret := (some (.array .int))) (own := RJ7) (by decide +kernel) rfl rfl (Nat.le_of_ble_eq_true rfl) ?_
  intro p e s m below meth c A ls H locs hA C h hr hlk hnm hl
  have hx := C.1.1.1
  have hb := C.1.1.2.1
  have hl : lv_has ls 3 [(0, .ref h0), (1, .int (nI k))] := hl
  have wd0 : Cond.arrayClass .int ∈ wsJ7_copyOf_59c91 := by decide +kernel
  have wd1 : Cond.methodLink RJ7 304 Lib.Math.min.name ∈ wsJ7_copyOf_59c91 := by decide +kernel
  have wd2 : Cond.static Lib.Math.min.name ∈ wsJ7_copyOf_59c91 := by decide +kernel
  have wd3 : Cond.initialized "java/lang/Math" ∈ wsJ7_copyOf_59c91 := by decide +kernel
  have wd4 : Cond.code Lib.Math.min.name Lib.Math.min.code 2 (some .int) ∈ wsJ7_copyOf_59c91 := by decide +kernel
  have wd5 : Cond.methodLink RJ7 150 arraycopyName ∈ wsJ7_copyOf_59c91 := by decide +kernel
  have wd6 : Cond.native arraycopyName ∈ wsJ7_copyOf_59c91 := by decide +kernel
  have wd7 : Cond.static arraycopyName ∈ wsJ7_copyOf_59c91 := by decide +kernel
  have wd8 : Cond.initialized "java/lang/System" ∈ wsJ7_copyOf_59c91 := by decide +kernel
  have wd9 : Cond.methodLink RJ7 316 ⟨"[I", "clone", "()Ljava/lang/Object;"⟩ ∈ wsJ7_copyOf_59c91 := by decide +kernel
  have wd10 : Cond.sameMethod "[I" "java/lang/Object" "clone" "()Ljava/lang/Object;" ∈ wsJ7_copyOf_59c91 := by decide +kernel
  have wd11 : Cond.native ⟨"java/lang/Object", "clone", "()Ljava/lang/Object;"⟩ ∈ wsJ7_copyOf_59c91 := by decide +kernel
  have wd12 : Cond.instanceMethod ⟨"java/lang/Object", "clone", "()Ljava/lang/Object;"⟩ ∈ wsJ7_copyOf_59c91 := by decide +kernel
  have wd13 : Cond.selects "[I" ⟨"[I", "clone", "()Ljava/lang/Object;"⟩ ⟨"java/lang/Object", "clone", "()Ljava/lang/Object;"⟩ ∈ wsJ7_copyOf_59c91 := by decide +kernel
  have wd14 : Cond.classLink RJ7 317 "[I" ∈ wsJ7_copyOf_59c91 := by decide +kernel
  refine lv_iload_n hx hb dJ7_copyOf_59c91_0 rfl (lv_at hl 1 rfl) ?_
  refine lv_aload_n hx hb dJ7_copyOf_59c91_1 rfl (lv_at hl 0 rfl) ?_
  refine r_alen C h 0 1 rfl rfl dJ7_copyOf_59c91_2 ?_
  refine lv_icmp_ne (tgt := 14) hx hb dJ7_copyOf_59c91_3 (by decide) (fun c_3 => ?_) (fun c_3 => ?_)
  · refine lv_iload_n hx hb dJ7_copyOf_59c91_14 rfl (lv_at hl 1 rfl) ?_
    refine r_newa C h (ty := .int) rfl 1 (cA := G.2.2 1) rfl (fun z => z) wd0 (n := (nI k)) (N' := k) (a0 := (k, .inl (fun _ => 0))) (fun _ => rfl) (nI_pos (by omega)) (nI_clamp (by omega)) (by show k * 4 ≤ _; omega) (Nat.le_refl _) (by show 0 + k ≤ k; omega) dJ7_copyOf_59c91_15 (fun q H h => ?_)
    have h : gS G A s ([(h0, .inl (G.2.2 1, n, .inl f)), (q, .inl (G.2.2 1, k, .inl (fun _ => 0)))]) H locs := h
    refine lv_astore_n (lv' := [(2, .ref q), (0, .ref h0), (1, .int (nI k))]) hx hb dJ7_copyOf_59c91_17 rfl hl (by decide) rfl (fun ls hl => ?_)
    refine lv_aload_n hx hb dJ7_copyOf_59c91_18 rfl (lv_at hl 1 rfl) ?_
    refine lv_iconst (v := 0) hx hb dJ7_copyOf_59c91_19 (by decide) ?_
    refine lv_aload_n hx hb dJ7_copyOf_59c91_20 rfl (lv_at hl 0 rfl) ?_
    refine lv_iconst (v := 0) hx hb dJ7_copyOf_59c91_21 (by decide) ?_
    refine lv_aload_n hx hb dJ7_copyOf_59c91_22 rfl (lv_at hl 1 rfl) ?_
    refine r_alen C h 0 1 rfl rfl dJ7_copyOf_59c91_23 ?_
    refine lv_iload_n hx hb dJ7_copyOf_59c91_24 rfl (lv_at hl 2 rfl) ?_
    refine va_mmin hx hb (C.1.1.2.2.1.trans hl.1.symm) C.1.1.2.2.2.1 (C.1.1.2.2.2.2 _ wd1) (C.1.1.2.2.2.2 _ wd2) (C.1.1.2.2.2.2 _ wd3) (C.1.1.2.2.2.2 _ wd4) (Nat.le_of_ble_eq_true rfl) (Nat.le_of_ble_eq_true rfl) (by show _ ≤ 1; omega) (by show _ ≤ k; omega) dJ7_copyOf_59c91_25 ?_
    refine lv_cgi (y := (nI (min n k))) (nn_min (by omega) (by omega)) ?_
    refine r_copy C h 0 1 rfl rfl wd5 wd6 wd7 wd8 hl.1 (by decide) (by decide) (nI_pos (by omega)) (by rw [nI_clamp (by omega)]; show 0 + _ ≤ n; omega) (by rw [nI_clamp (by omega)]; show 0 + _ ≤ k; omega) (Nat.le_of_ble_eq_true rfl) (Nat.le_of_ble_eq_true rfl) dJ7_copyOf_59c91_28 (fun H locs h => ?_)
    have h : gS G A s ([(h0, .inl (G.2.2 1, n, .inl f)), (q, .inl (G.2.2 1, k, .inl (va_cpy f (fun _ => 0) (0 : Int32).toNatClampNeg (0 : Int32).toNatClampNeg (nI (min n k)).toNatClampNeg)))]) H locs := h
    have h : gS G A s ([(h0, .inl (G.2.2 1, n, .inl f)), (q, .inl (G.2.2 1, k, .inl (va_cpy f (fun _ => 0) 0 0 (min n k))))]) H locs := by rw [← nI_clamp (n := min n k) (by omega)]; exact h
    refine lv_aload_n hx hb dJ7_copyOf_59c91_31 rfl (lv_at hl 0 rfl) ?_
    exact r_aret C h hr (Or.inr ⟨_, rfl⟩) hlk (Nat.le_refl _) (by omega) (va_cpy f (fun _ => 0) 0 0 (min n k)) (fun j h1 h2 => by rw [va_cpy, if_pos ⟨by omega, by omega⟩]; congr 1; omega) (rfl) dJ7_copyOf_59c91_32
  · obtain rfl : k = n := (nI_eq (by omega) (by omega)).mp c_3
    refine lv_aload_n hx hb dJ7_copyOf_59c91_6 rfl (lv_at hl 0 rfl) ?_
    refine r_clone C h 0 rfl wd9 wd10 wd11 wd12 wd13 hl.1 (Nat.le_of_ble_eq_true rfl) (Nat.le_of_ble_eq_true rfl) (Nat.le_refl _) (by show 0 + k ≤ k; omega) dJ7_copyOf_59c91_7 (fun q H h => ?_)
    have h : gS G A s ([(h0, .inl (G.2.2 1, k, .inl f)), (q, .inl (G.2.2 1, k, .inl f))]) H locs := h
    refine r_castI C h 1 rfl wd14 dJ7_copyOf_59c91_10 ?_
    exact r_aret C h hr (Or.inr ⟨_, rfl⟩) hlk (Nat.le_refl _) (by omega) f (fun j h1 h2 => rfl) (rfl) dJ7_copyOf_59c91_13
