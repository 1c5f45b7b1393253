/-! ===== rows of references; pools ===== -/
section GA
variable {p : Program} {l : Launch} {e : Env} {R : Room} {s : State} {m : MethodId} {args : Array Value} {below : List Frame} {meth : Method} {c : Code} {H : Heap} {locs : List Loc} {cells slots : Nat} {Q : State → Prop} {cc : ByteArray} {nL : Nat} {Ts : List Cond} {own : String} {G : gG} {A : Nat → Prop} {ws : va_W} {pc : Nat} {ls : Array Slot} {rest : List Value}
theorem r_aald (C : gC p m c cc nL s args Ts own G A) (h : gS G A s ws H locs) (q0 t0 : Nat) {a n : Nat} {f : Nat → Option Nat} (ha : ws[q0]? = some (a, .inl (G.2.2 t0, n, .inr (.inr (.inr (.inr f)))))) {Cn : String} (ht : (gT G)[t0]? = some (G.2.2 t0, .object Cn)) {i : Int32} (hin : vp_in i n) {v : Nat} (hv : f i.toNatClampNeg = some v) (hdg : decode cc pc = .ok (.aaload, 1)) (kk : W p l e R s m args below meth c H locs cells slots Q (F0 m (pc + 1) ls (.ref v :: rest))) : W p l e R s m args below meth c H locs cells slots Q (F0 m pc ls (.int i :: .ref a :: rest)) :=
  va_aldq C.1.1.1 C.1.1.2.1 C.1.2.1 h.1 q0 t0 ha ht hin hdg (by rw [hv]; exact kk)
theorem r_aast (C : gC p m c cc nL s args Ts own G A) (h : gS G A s ws H locs) (q0 t0 qk ci : Nat) {a n v : Nat} {r : vw_C} {vs : List Value} {f : Nat → Option Nat} (ha : ws[q0]? = some (a, .inl (G.2.2 t0, n, .inr (.inr (.inr (.inr f)))))) (ht : (gT G)[t0]? = some (G.2.2 t0, .object r.1)) (hv : ws[qk]? = some (v, .inr (ci, vs))) (hc : vwCl[ci]? = some r) {i : Int32} (hin : vp_in i n) (hdg : decode cc pc = .ok (.aastore, 1)) (kk : ∀ (H1 : Heap) (locs1 : List Loc), gS G A s (ws.set q0 (a, .inl (G.2.2 t0, n, .inr (.inr (.inr (.inr (va_up f i.toNatClampNeg (some v)))))))) H1 locs1 → W p l e R s m args below meth c H1 locs1 cells slots Q (F0 m (pc + 1) ls rest)) : W p l e R s m args below meth c H locs cells slots Q (F0 m pc ls (.ref v :: .int i :: .ref a :: rest)) :=
  va_astq C.1.1.1 C.1.1.2.1 C.1.2.1 h.1 h.2.1 h.2.2 q0 t0 qk ci ha ht hv hc hin hdg (fun H1 locs1 a1 a2 a3 => kk H1 locs1 ⟨a1, a2, a3⟩)
theorem r_anew (C : gC p m c cc nL s args Ts own G A) (h : gS G A s ws H locs) (t0 : Nat) {Cn : String} (ht : (gT G)[t0]? = some (G.2.2 t0, .object Cn)) {index : Nat} (hcl : Cond.classLink own index Cn ∈ Ts) (hov : Cond.arrayOver (.object Cn) ∈ nW) {n : Int32} {N' : Nat} (hn : ¬ n < 0) (hN : n.toNatClampNeg = N') (hb : N' * 4 ≤ 536870912) (hcells : cells + 1 ≤ R.cells) (hslots : slots + N' ≤ R.slots) (hdg : decode cc pc = .ok (.anewarray index, 3))
    (kk : ∀ (q : Nat) (H1 : Heap), gS G A s (ws ++ [(q, .inl (G.2.2 t0, N', .inr (.inr (.inr (.inr (fun _ => none))))))]) H1 locs → W p l e R s m args below meth c H1 locs (cells + 1) (slots + N') Q (F0 m (pc + 3) ls (.ref q :: rest))) : W p l e R s m args below meth c H locs cells slots Q (F0 m pc ls (.int n :: rest)) := by
  refine va_newq C.1.1.1 C.1.1.2.1 C.1.1.2.2.2.1 (C.1.1.2.2.2.2 _ hcl) (va_AO.of (A := #[]) (C.1.2.2 _ hov)) C.1.2.1 h.1 h.2.1 h.2.2 C.2 hn hN hb hcells hslots hdg (fun q cA H1 k1 k2 k3 k4 => ?_)
  have h1 := (k1.2 (gT G).length (cA, .object Cn) (by rw [List.getElem?_append_right (Nat.le_refl _), Nat.sub_self]; rfl)).2
  have h2 := (C.1.2.1.2 t0 _ ht).2
  obtain ⟨-, -, -, -, -, e1⟩ := h1
  obtain ⟨-, -, -, -, -, e2⟩ := h2
  have e : cA = G.2.2 t0 := Option.some.inj (e1.symm.trans e2)
  subst e
  exact kk q H1 ⟨k2, k3, k4⟩
end GA
theorem pm_push {E P : va_W} {x : Nat × va_E} : List.Perm ((E ++ P) ++ [x]) ((E ++ [x]) ++ P) := by
  rw [List.append_assoc, List.append_assoc]
  exact List.Perm.append_left E List.perm_append_comm
def oA (n : Nat) (f : Nat → Nat) : Nat → Option Nat := fun k => if k < n then some (f k) else none
theorem oA_at {n i : Nat} (f : Nat → Nat) (h : i < n) (hn : n < 2 ^ 31) : oA n f (nI i).toNatClampNeg = some (f i) := by
  rw [nI_clamp (by omega)]; exact if_pos h
theorem oA_up {n : Nat} (f : Nat → Nat) (x : Nat) (hn : n < 2 ^ 31) : va_up (oA n f) (nI n).toNatClampNeg (some x) = oA (n + 1) (va_up f n x) := by
  rw [nI_clamp hn]
  funext k
  show (if k = n then some x else if k < n then some (f k) else none) = if k < n + 1 then some (if k = n then x else f k) else none
  by_cases e : k = n
  · rw [if_pos e, if_pos (by omega), if_pos e]
  · rw [if_neg e, if_neg e]
    by_cases e2 : k < n
    · rw [if_pos e2, if_pos (by omega)]
    · rw [if_neg e2, if_neg (by omega)]
theorem oA_0 (f : Nat → Nat) : oA 0 f = fun _ => none := funext fun k => if_neg (Nat.not_lt_zero k)
def plA (nl : Nat) (la tk : Nat → Nat) : va_W := (List.range nl).map (fun k => (la k, .inr (1, [.ref (tk k)])))
def plT (G : gG) (nl : Nat) (tk tz : Nat → Nat) (tv : Nat → Nat → Int32) : va_W := (List.range nl).map (fun k => (tk k, .inl (G.2.2 1, tz k, .inl (tv k))))
def plG (ng : Nat) (lo : Nat → Nat) (D : Nat → Nat → Int32) : va_W := (List.range ng).map (fun k => (lo k, .inr (3, [.int (D 0 k), .int (D 1 k), .int (D 2 k), .int (D 3 k), .int (D 4 k), .int (D 5 k), .int (D 6 k), .int (D 7 k), .int (D 8 k)])))
theorem plA_len (nl : Nat) (la tk : Nat → Nat) : (plA nl la tk).length = nl := by unfold plA; rw [List.length_map, List.length_range]
theorem plT_len (G : gG) (nl : Nat) (tk tz : Nat → Nat) (tv : Nat → Nat → Int32) : (plT G nl tk tz tv).length = nl := by unfold plT; rw [List.length_map, List.length_range]
theorem plG_len (ng : Nat) (lo : Nat → Nat) (D : Nat → Nat → Int32) : (plG ng lo D).length = ng := by unfold plG; rw [List.length_map, List.length_range]
theorem map_at {α : Type} (f : Nat → α) {n i : Nat} (h : i < n) : ((List.range n).map f)[i]? = some (f i) := by
  rw [List.getElem?_map, List.getElem?_range h]; rfl
theorem plA_at {nl i : Nat} {la tk : Nat → Nat} (h : i < nl) : (plA nl la tk)[i]? = some (la i, .inr (1, [.ref (tk i)])) := map_at _ h
theorem plT_at {G : gG} {nl i : Nat} {tk tz : Nat → Nat} {tv : Nat → Nat → Int32} (h : i < nl) : (plT G nl tk tz tv)[i]? = some (tk i, .inl (G.2.2 1, tz i, .inl (tv i))) := map_at _ h
theorem plG_at {ng i : Nat} {lo : Nat → Nat} {D : Nat → Nat → Int32} (h : i < ng) : (plG ng lo D)[i]? = some (lo i, .inr (3, [.int (D 0 i), .int (D 1 i), .int (D 2 i), .int (D 3 i), .int (D 4 i), .int (D 5 i), .int (D 6 i), .int (D 7 i), .int (D 8 i)])) := map_at _ h
theorem pl_R {P Q : va_W} {n j : Nat} {x : Nat × va_E} (hn : P.length = n) (h : Q[j]? = some x) : (P ++ Q)[n + j]? = some x := by
  rw [List.getElem?_append_right (by omega), hn, Nat.add_sub_cancel_left]; exact h
theorem pl_L {P Q : va_W} {j : Nat} {x : Nat × va_E} (h : P[j]? = some x) : (P ++ Q)[j]? = some x := by
  rw [List.getElem?_append_left (List.getElem?_eq_some_iff.mp h).1]; exact h
theorem pl_RS {P Q Q2 : va_W} {n j : Nat} {x : Nat × va_E} (hn : P.length = n) (h : Q.set j x = Q2) : (P ++ Q).set (n + j) x = P ++ Q2 := by
  rw [List.set_append_right _ _ (by omega), hn, Nat.add_sub_cancel_left, h]
theorem map_set {α : Type} (f : Nat → α) {n i : Nat} (h : i < n) (x : α) : ((List.range n).map f).set i x = (List.range n).map (va_up f i x) := by
  apply List.ext_getElem?
  intro j
  rw [List.getElem?_set]
  by_cases e : i = j
  · subst e
    rw [if_pos rfl, map_at _ h, if_pos (by rw [List.length_map, List.length_range]; exact h)]
    exact congrArg some (if_pos rfl).symm
  · rw [if_neg e]
    by_cases e2 : j < n
    · rw [map_at _ e2, map_at _ e2]
      exact congrArg some (if_neg (fun z => e z.symm)).symm
    · rw [List.getElem?_eq_none (by rw [List.length_map, List.length_range]; omega), List.getElem?_eq_none (by rw [List.length_map, List.length_range]; omega)]
theorem plG_set5 {ng : Nat} {lo : Nat → Nat} {D : Nat → Nat → Int32} {i : Nat} {v : Int32} (h : i < ng) : (plG ng lo D).set i (lo i, .inr (3, [.int (D 0 i), .int (D 1 i), .int (D 2 i), .int (D 3 i), .int (D 4 i), .int (D 5 i), .int (D 6 i), .int (D 7 i), .int (D 8 i)].set 5 (.int v))) = plG ng lo (va_up D 5 (upd (D 5) i v)) := by
  unfold plG
  rw [map_set _ h]
  congr 1
  funext k
  by_cases e : k = i
  · subst e
    simp [va_up, upd]
  · simp [va_up, upd, e]
theorem plG_set6 {ng : Nat} {lo : Nat → Nat} {D : Nat → Nat → Int32} {i : Nat} {v : Int32} (h : i < ng) : (plG ng lo D).set i (lo i, .inr (3, [.int (D 0 i), .int (D 1 i), .int (D 2 i), .int (D 3 i), .int (D 4 i), .int (D 5 i), .int (D 6 i), .int (D 7 i), .int (D 8 i)].set 6 (.int v))) = plG ng lo (va_up D 6 (upd (D 6) i v)) := by
  unfold plG
  rw [map_set _ h]
  congr 1
  funext k
  by_cases e : k = i
  · subst e
    simp [va_up, upd]
  · simp [va_up, upd, e]
theorem plG_set7 {ng : Nat} {lo : Nat → Nat} {D : Nat → Nat → Int32} {i : Nat} {v : Int32} (h : i < ng) : (plG ng lo D).set i (lo i, .inr (3, [.int (D 0 i), .int (D 1 i), .int (D 2 i), .int (D 3 i), .int (D 4 i), .int (D 5 i), .int (D 6 i), .int (D 7 i), .int (D 8 i)].set 7 (.int v))) = plG ng lo (va_up D 7 (upd (D 7) i v)) := by
  unfold plG
  rw [map_set _ h]
  congr 1
  funext k
  by_cases e : k = i
  · subst e
    simp [va_up, upd]
  · simp [va_up, upd, e]
theorem plG_set8 {ng : Nat} {lo : Nat → Nat} {D : Nat → Nat → Int32} {i : Nat} {v : Int32} (h : i < ng) : (plG ng lo D).set i (lo i, .inr (3, [.int (D 0 i), .int (D 1 i), .int (D 2 i), .int (D 3 i), .int (D 4 i), .int (D 5 i), .int (D 6 i), .int (D 7 i), .int (D 8 i)].set 8 (.int v))) = plG ng lo (va_up D 8 (upd (D 8) i v)) := by
  unfold plG
  rw [map_set _ h]
  congr 1
  funext k
  by_cases e : k = i
  · subst e
    simp [va_up, upd]
  · simp [va_up, upd, e]
theorem range_one {n a : Nat} (h : a < n) : (List.range n).filter (fun x => x == a) = [a] := by
  induction n with
  | zero => omega
  | succ n ih =>
    rw [List.range_succ, List.filter_append]
    rcases Nat.lt_or_ge a n with w | w
    · rw [ih w]
      have : (n == a) = false := by simp; omega
      simp [this]
    · obtain rfl : a = n := by omega
      have : (List.range a).filter (fun x => x == a) = [] := by
        rw [List.filter_eq_nil_iff]
        intro x hx
        have := List.mem_range.mp hx
        simp; omega
      rw [this]
      simp
/-- one of a pool ahead of the others -/
theorem map_out {α : Type} (f : Nat → α) {n k : Nat} (h : k < n) : ((List.range n).map f).Perm (f k :: ((List.range n).filter (fun j => decide (j ≠ k))).map f) := by
  have h1 : (List.range n).Perm (k :: (List.range n).filter (fun j => decide (j ≠ k))) := by
    rw [List.perm_iff_count]
    intro a
    by_cases e : a = k
    · subst e
      have e1 : (List.range n).count a = 1 := by
        rw [List.count_eq_length_filter]
        rw [show (List.range n).filter (fun x => x == a) = [a] from ?_]
        · rfl
        · exact range_one h
      rw [e1, List.count_cons_self, List.count_eq_zero_of_not_mem (fun z => by have := (List.mem_filter.mp z).2; simp at this)]
    · rw [List.count_cons_of_ne (fun z => e z.symm), List.count_filter (by simpa using e)]
  exact h1.map f
theorem plT_out {G : gG} {nl k : Nat} {tk tz : Nat → Nat} {tv : Nat → Nat → Int32} (h : k < nl) : (plT G nl tk tz tv).Perm ((tk k, .inl (G.2.2 1, tz k, .inl (tv k))) :: ((List.range nl).filter (fun j => decide (j ≠ k))).map (fun k => (tk k, .inl (G.2.2 1, tz k, .inl (tv k))))) := map_out _ h
theorem plA_s (nl : Nat) (la tk : Nat → Nat) (x y : Nat) : plA (nl + 1) (va_up la nl x) (va_up tk nl y) = plA nl la tk ++ [(x, .inr (1, [.ref y]))] := by
  unfold plA
  rw [List.range_succ, List.map_append]
  congr 1
  · refine List.map_congr_left (fun k hk => ?_)
    have hk := List.mem_range.mp hk
    rw [show va_up la nl x k = la k from if_neg (by omega), show va_up tk nl y k = tk k from if_neg (by omega)]
  · simp [va_up]
theorem plT_s (G : gG) (nl : Nat) (tk tz : Nat → Nat) (tv : Nat → Nat → Int32) (y z : Nat) (g : Nat → Int32) : plT G (nl + 1) (va_up tk nl y) (va_up tz nl z) (va_up tv nl g) = plT G nl tk tz tv ++ [(y, .inl (G.2.2 1, z, .inl g))] := by
  unfold plT
  rw [List.range_succ, List.map_append]
  congr 1
  · refine List.map_congr_left (fun k hk => ?_)
    have hk := List.mem_range.mp hk
    rw [show va_up tk nl y k = tk k from if_neg (by omega), show va_up tz nl z k = tz k from if_neg (by omega), show va_up tv nl g k = tv k from if_neg (by omega)]
  · simp [va_up]
def lgU (D : Nat → Nat → Int32) (n : Nat) (a b c d e : Int32) : Nat → Nat → Int32 := fun j => upd (D j) n (if j = 0 then a else if j = 1 then b else if j = 2 then c else if j = 3 then d else if j = 4 then e else 0)
theorem plG_s (ng : Nat) (lo : Nat → Nat) (D : Nat → Nat → Int32) (x : Nat) (a b c d e : Int32) : plG (ng + 1) (va_up lo ng x) (lgU D ng a b c d e) = plG ng lo D ++ [(x, .inr (3, [.int a, .int b, .int c, .int d, .int e, .int 0, .int 0, .int 0, .int 0]))] := by
  unfold plG lgU
  rw [List.range_succ, List.map_append]
  congr 1
  · refine List.map_congr_left (fun k hk => ?_)
    have hk := List.mem_range.mp hk
    have e1 : k ≠ ng := by omega
    simp [va_up, upd, e1]
  · simp [va_up, upd]
