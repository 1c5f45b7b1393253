/-- the run's own numbers: the classes' ids, their slots, the array classes (byte, int, long, boolean, Law, Log) -/
abbrev gG : Type := (Nat → ClassId) × (Nat → Nat → Nat) × (Nat → ClassId)
abbrev gD (G : gG) : va_G := (G.1, G.2.1)
abbrev gT (G : gG) : List (ClassId × FieldType) := [(G.2.2 0, .byte), (G.2.2 1, .int), (G.2.2 2, .long), (G.2.2 3, .boolean), (G.2.2 4, .object "ScaleHouse$Law"), (G.2.2 5, .object "ScaleHouse$Log")]
/-- words that no method's own list holds -/
def nW : List Cond := [.fieldLinkNest "ScaleHouse" 95 "ScaleHouse$Tape" "size" "I" "ScaleHouse", .fieldLinkNest "ScaleHouse" 128 "ScaleHouse$Register" "size" "I" "ScaleHouse", .fieldLinkNest "ScaleHouse" 183 "ScaleHouse$Ledger" "days" "[I" "ScaleHouse", .fieldLinkNest "ScaleHouse" 186 "ScaleHouse$Ledger" "logs" "[I" "ScaleHouse", .fieldLinkNest "ScaleHouse" 188 "ScaleHouse$Ledger" "coins" "[I" "ScaleHouse", .fieldLinkNest "ScaleHouse" 178 "ScaleHouse$Ledger" "size" "I" "ScaleHouse", .fieldLinkNest "ScaleHouse" 241 "ScaleHouse$Ledger" "allCoins" "I" "ScaleHouse", .fieldLinkNest "ScaleHouse$Pairing" 68 "ScaleHouse$Tally" "ds" "[I" "ScaleHouse", .fieldLinkNest "ScaleHouse$Pairing" 77 "ScaleHouse$Tally" "ls" "[I" "ScaleHouse", .fieldLinkNest "ScaleHouse$Pairing" 55 "ScaleHouse$Tally" "size" "I" "ScaleHouse", .fieldLinkNest "ScaleHouse" 226 "ScaleHouse$Tally" "size" "I" "ScaleHouse", .fieldLinkNest "ScaleHouse" 222 "ScaleHouse$Pairing" "buyer" "LScaleHouse$Tally;" "ScaleHouse", .fieldLinkNest "ScaleHouse" 244 "ScaleHouse$Pairing" "seller" "LScaleHouse$Tally;" "ScaleHouse", .fieldLinkNest "ScaleHouse" 229 "ScaleHouse$Pairing" "sellerOf" "[I" "ScaleHouse", .fieldLinkNest "ScaleHouse" 219 "ScaleHouse$Pairing" "found" "I" "ScaleHouse", .fieldLinkNest "ScaleHouse" 232 "ScaleHouse$Court" "allowance" "I" "ScaleHouse", .fieldLinkNest "ScaleHouse" 247 "ScaleHouse$Court" "stood" "I" "ScaleHouse", .fieldLinkNest "ScaleHouse" 250 "ScaleHouse$Court" "buyerOff" "I" "ScaleHouse", .fieldLinkNest "ScaleHouse" 253 "ScaleHouse$Court" "sellerOff" "I" "ScaleHouse", .fieldLinkNest "ScaleHouse" 135 "ScaleHouse$Law" "tokens" "[I" "ScaleHouse", .fieldLinkNest "ScaleHouse" 169 "ScaleHouse$Log" "owner" "I" "ScaleHouse", .fieldLinkNest "ScaleHouse" 196 "ScaleHouse$Log" "stick" "I" "ScaleHouse", .fieldLinkNest "ScaleHouse" 199 "ScaleHouse$Log" "read" "I" "ScaleHouse", .fieldLinkNest "ScaleHouse" 263 "ScaleHouse$Log" "length" "I" "ScaleHouse", .fieldLinkNest "ScaleHouse" 257 "ScaleHouse$Log" "day" "I" "ScaleHouse", .fieldLinkNest "ScaleHouse" 159 "ScaleHouse$Log" "rot" "I" "ScaleHouse", .fieldLinkNest "ScaleHouse" 162 "ScaleHouse$Log" "bend" "I" "ScaleHouse", .fieldLinkNest "ScaleHouse" 191 "ScaleHouse$Log" "checked" "I" "ScaleHouse", .fieldLinkNest "ScaleHouse" 279 "ScaleHouse$Log" "booked" "I" "ScaleHouse", .methodLinkNest "ScaleHouse" 9 ⟨"ScaleHouse$Tape", "<init>", "()V"⟩ "ScaleHouse", .methodLinkNest "ScaleHouse" 18 ⟨"ScaleHouse$Reckoner", "<init>", "()V"⟩ "ScaleHouse", .methodLinkNest "ScaleHouse" 59 ⟨"ScaleHouse$Ledger", "<init>", "()V"⟩ "ScaleHouse", .methodLinkNest "ScaleHouse" 66 ⟨"ScaleHouse$Pairing", "<init>", "()V"⟩ "ScaleHouse", .methodLinkNest "ScaleHouse$Pairing" 11 ⟨"ScaleHouse$Tally", "<init>", "()V"⟩ "ScaleHouse", .methodLinkNest "ScaleHouse" 73 ⟨"ScaleHouse$Court", "<init>", "()V"⟩ "ScaleHouse", .castable "[I" "java/lang/Cloneable", .arrayOver (.object "ScaleHouse$Law"), .arrayOver (.object "ScaleHouse$Log")]
def gN (w : Cond) : Bool := match w with
  | .fieldLinkNest _ _ _ _ _ _ => true
  | .methodLinkNest _ _ _ _ => true
  | .castable _ _ => true
  | .arrayOver (.object _) => true
  | _ => false
theorem gN_warm {w : Cond} (h : gN w = true) {s U : State} (hW : s.WarmedH U.vm) (z : va_Nw w s) : va_Nw w U := by
  unfold gN at h
  split at h
  · exact va_Nw.warmF hW z
  · exact va_Nw.warmM hW z
  · exact va_Nw.warmC hW z
  · exact va_AO.moved hW.alike z
  · cases h
theorem gN_same {w : Cond} (h : gN w = true) {u U : State} (hv : u.vm = U.vm) (z : va_Nw w u) : va_Nw w U := by
  unfold gN at h
  split at h
  · exact va_Nw.same rfl hv z
  · exact va_Nw.same rfl hv z
  · exact va_Nw.same rfl hv z
  · exact va_AO.moved (by rw [hv]; exact Vm.Alike.refl _) z
  · cases h
theorem nW_ok : ∀ w ∈ nW, gN w = true := by decide +kernel
def gK (G : gG) (U : State) : Prop := va_K (gD G) vwCl (gT G) U ∧ ∀ w ∈ nW, va_Nw w U
theorem gK.warm {G : gG} {s U : State} (hW : s.WarmedH U.vm) (h : gK G s) : gK G U := ⟨va_K.moved hW.alike h.1, fun w hw => gN_warm (nW_ok w hw) hW (h.2 w hw)⟩
theorem gK.calling {G : gG} {U : State} {g : JFrame} {mk : MethodId} {a : Array Value} (h : gK G U) : gK G (U.calling g mk a) := ⟨va_K.moved (u := U) (U := U.calling g mk a) (Vm.Alike.refl U.vm) h.1, fun w hw => gN_same (u := U) (nW_ok w hw) rfl (h.2 w hw)⟩
/-- the world in the middle of a method -/
def gS (G : gG) (A : Nat → Prop) (s : State) (ws : va_W) (H : Heap) (locs : List Loc) : Prop := va_P (gD G) vwCl ws H ∧ va_D A ws ∧ va_S A s.heap H locs
/-- what stays while a method runs -/
def gC (p : Program) (m : MethodId) (c : Code) (cc : ByteArray) (nL : Nat) (s : State) (args : Array Value) (Ts : List Cond) (own : String) (G : gG) (A : Nat → Prop) : Prop := (CallFix p m c cc nL s args Ts own ∧ gK G s) ∧ ∀ q, s.heap.size ≤ q → A q
def gQ (G : gG) (A : Nat → Prop) (ws : va_W) (t : State) : Prop := va_P (gD G) vwCl ws t.heap ∧ va_D A ws
def gB (G : gG) (av : List Value) (ws : va_W) (sz : Nat) : Array Value → State → Prop := va_Pc av (fun U => U.heap.size = sz ∧ va_P (gD G) vwCl ws U.heap ∧ va_D (fun _ => True) ws ∧ gK G U)
theorem gB_blind {G : gG} {av : List Value} {ws : va_W} {sz : Nat} : FrameBlind (gB G av ws sz) := fun a U g mk q => by
  obtain ⟨q0, q1, q2, q3, q4⟩ := q
  exact ⟨q0, q1, q2, q3, q4.calling⟩
-- contracts
abbrev gR (fr lo mc ms : Nat) : Room := { frames := fr, cells := mc, slots := ms, locals := lo }
def cM (l : Launch) (y : MethodName) (wsC : List Cond) (fr lo mc ms : Nat) (G : gG) (av : List Value) (ws : va_W) (Qc : (Nat → Prop) → Array Value → State → Outcome → State → Prop) : Prop :=
  ∀ sz : Nat, Met l y wsC (gR fr lo mc ms) (gB G av ws sz) (Qc (va_A ws sz)) mc ms (va_A ws sz)
def qI (G : gG) {S : Type} (post : Int32 → S → Prop) (ws' : S → va_W) (A : Nat → Prop) : Array Value → State → Outcome → State → Prop := va_Qi post (fun u => gQ G A (ws' u)) A
def qL (G : gG) {S : Type} (post : Int64 → S → Prop) (ws' : S → va_W) (A : Nat → Prop) : Array Value → State → Outcome → State → Prop := va_Ql post (fun u => gQ G A (ws' u)) A
def qV (G : gG) {S : Type} (post : S → Prop) (ws' : S → va_W) (A : Nat → Prop) : Array Value → State → Outcome → State → Prop := va_Qv post (fun u => gQ G A (ws' u)) A
def qR (G : gG) {S : Type} (post : S → Prop) (ws' : S → Nat → va_W) (A : Nat → Prop) : Array Value → State → Outcome → State → Prop := va_Qr post (fun u a => gQ G A (ws' u a)) A
-- worlds by another order
theorem gP_perm {D : va_G} {cl : List vw_C} {ws ws' : va_W} {H : Heap} (hp : ws.Perm ws') (h : va_P D cl ws H) : va_P D cl ws' H := by
  intro k q hk
  obtain ⟨i, hi⟩ := List.getElem?_of_mem (hp.mem_iff.mpr (List.mem_of_getElem? hk))
  exact h i q hi
theorem gD_iff {ws : va_W} : (∀ (i j : Nat) (p q : Nat × va_E), ws[i]? = some p → ws[j]? = some q → p.1 = q.1 → i = j) ↔ ws.Pairwise (fun p q => p.1 ≠ q.1) := by
  rw [List.pairwise_iff_getElem]
  constructor
  · intro h i j hi hj hij he
    exact absurd (h i j _ _ (List.getElem?_eq_getElem hi) (List.getElem?_eq_getElem hj) he) (Nat.ne_of_lt hij)
  · intro h i j p q hi hj he
    obtain ⟨li, ei⟩ := List.getElem?_eq_some_iff.mp hi
    obtain ⟨lj, ej⟩ := List.getElem?_eq_some_iff.mp hj
    rcases Nat.lt_trichotomy i j with hl | hl | hl
    · exact absurd (by rw [ei, ej]; exact he) (h i j li lj hl)
    · exact hl
    · exact absurd (by rw [ei, ej]; exact he.symm) (h j i lj li hl)
theorem gD_perm {A : Nat → Prop} {ws ws' : va_W} (hp : ws.Perm ws') (h : va_D A ws) : va_D A ws' := by
  refine ⟨gD_iff.mpr ((hp.pairwise_iff (fun h => Ne.symm h)).mp (gD_iff.mp h.1)), fun k q hk => ?_⟩
  obtain ⟨i, hi⟩ := List.getElem?_of_mem (hp.mem_iff.mpr (List.mem_of_getElem? hk))
  exact h.2 i q hi
theorem gS.perm {G : gG} {A : Nat → Prop} {s : State} {ws ws' : va_W} {H : Heap} {locs : List Loc} (h : gS G A s ws H locs) (hp : ws.Perm ws') : gS G A s ws' H locs := ⟨gP_perm hp h.1, gD_perm hp h.2.1, h.2.2⟩
theorem pm {ws ws' : va_W} (n : Nat) (hn : ws.length = n) (is : List Nat) (hp : is.Perm (List.range n)) (h : is.map (fun i => ws[i]?) = ws'.map some) : ws.Perm ws' := by
  subst hn
  have h1 : (List.range ws.length).map (fun i => ws[i]?) = ws.map some := by
    apply List.ext_getElem?
    intro i
    rw [List.getElem?_map, List.getElem?_map]
    by_cases hi : i < ws.length
    · rw [List.getElem?_range hi, List.getElem?_eq_getElem hi]; simp [hi]
    · rw [List.getElem?_eq_none (by simpa using Nat.le_of_not_lt hi), List.getElem?_eq_none (Nat.le_of_not_lt hi)]; rfl
  have h2 := hp.map (fun i => ws[i]?)
  rw [h, h1] at h2
  have h3 := h2.filterMap id
  rw [List.filterMap_map, List.filterMap_map] at h3
  have e : ∀ w : va_W, List.filterMap (id ∘ some) w = w := fun w => by
    induction w with
    | nil => rfl
    | cons a t ih => simp [Function.comp_def]
  rw [e, e] at h3
  exact h3.symm
theorem pmA {ws ws' pl : va_W} (h : ws.Perm ws') : (ws ++ pl).Perm (ws' ++ pl) := h.append_right pl
theorem pmB {ws wc wr pl : va_W} (h : ws.Perm (wc ++ wr)) : (ws ++ pl).Perm (wc ++ (wr ++ pl)) := by
  have := h.append_right pl
  rwa [List.append_assoc] at this

section GR
variable {p : Program} {l : Launch} {e : Env} {R : Room} {s : State} {m : MethodId} {args : Array Value} {below : List Frame} {meth : Method} {c : Code} {H : Heap} {locs : List Loc} {cells slots : Nat} {Q : State → Prop} {cc : ByteArray} {nL : Nat} {Ts : List Cond} {own : String} {G : gG} {A : Nat → Prop} {ws : va_W} {pc : Nat} {ls : Array Slot} {rest : List Value}
theorem r_get (C : gC p m c cc nL s args Ts own G A) (h : gS G A s ws H locs) (q0 : Nat) {a ci : Nat} {fs : List Value} (he : ws[q0]? = some (a, .inr (ci, fs))) {Cn : String} {T : u_T} {N : Nat} (hc : vwCl[ci]? = some (Cn, T, N)) (hin : ∀ w ∈ u_ws Cn T N, w ∈ Ts) (k : Nat) (hk : k < N) {index : Nat} {ref : String} (hlink : Cond.fieldLink own index ref (T k).2.1 (T k).2.2.1 ∈ Ts) (hsame : (T k).1 = ref) {v : Value} (hv : fs[k]? = some v) (hdg : decode cc pc = .ok (.getfield index, 3)) (kk : W p l e R s m args below meth c H locs cells slots Q (F0 m (pc + 3) ls (v :: rest))) : W p l e R s m args below meth c H locs cells slots Q (F0 m pc ls (.ref a :: rest)) :=
  va_get C.1.1.1 C.1.1.2.1 C.1.1.2.2.2.2 hin C.1.1.2.2.2.1 C.1.2.1 h.1 q0 he hc k hk (C.1.1.2.2.2.2 _ hlink) (fun _ h9 => hsame ▸ h9) hv hdg kk
theorem r_getN (C : gC p m c cc nL s args Ts own G A) (h : gS G A s ws H locs) (q0 : Nat) {a ci : Nat} {fs : List Value} (he : ws[q0]? = some (a, .inr (ci, fs))) {Cn : String} {T : u_T} {N : Nat} (hc : vwCl[ci]? = some (Cn, T, N)) (hin : ∀ w ∈ u_ws Cn T N, w ∈ Ts) (k : Nat) (hk : k < N) {index : Nat} {ref host : String} (hlink : Cond.fieldLinkNest own index ref (T k).2.1 (T k).2.2.1 host ∈ nW) (hsame : (T k).1 = ref) {v : Value} (hv : fs[k]? = some v) (hdg : decode cc pc = .ok (.getfield index, 3)) (kk : W p l e R s m args below meth c H locs cells slots Q (F0 m (pc + 3) ls (v :: rest))) : W p l e R s m args below meth c H locs cells slots Q (F0 m pc ls (.ref a :: rest)) :=
  va_getN C.1.1.1 C.1.1.2.1 C.1.1.2.2.2.2 hin C.1.1.2.2.2.1 C.1.2.1 h.1 q0 he hc k hk (va_Nw.use rfl (C.1.2.2 _ hlink)) (fun _ h9 => hsame ▸ h9) hv hdg kk
theorem r_put (C : gC p m c cc nL s args Ts own G A) (h : gS G A s ws H locs) (q0 : Nat) {a ci : Nat} {fs : List Value} (he : ws[q0]? = some (a, .inr (ci, fs))) {Cn : String} {T : u_T} {N : Nat} (hc : vwCl[ci]? = some (Cn, T, N)) (hin : ∀ w ∈ u_ws Cn T N, w ∈ Ts) (ty0 : Nat → FieldType) (hty : ∀ k, k < N → parseFieldDescriptor (T k).2.2.1 = some (ty0 k)) (hnm : ∀ a, a < N → ∀ b, b < N → a ≠ b → (T a).2.1 ≠ (T b).2.1) (k : Nat) (hk : k < N) {index : Nat} {ref  : String} (hlink : Cond.fieldLink own index ref (T k).2.1 (T k).2.2.1 ∈ Ts) (hsame : (T k).1 = ref) (hfin : (T k).2.2.2 = false) {v : Value} (hn : narrow (ty0 k) v = v) (hfit : fits (ty0 k) v = true) (hl : k < fs.length) (hdg : decode cc pc = .ok (.putfield index, 3)) (kk : ∀ (H1 : Heap) (locs1 : List Loc), gS G A s (ws.set q0 (a, .inr (ci, fs.set k v))) H1 locs1 → W p l e R s m args below meth c H1 locs1 cells slots Q (F0 m (pc + 3) ls rest)) : W p l e R s m args below meth c H locs cells slots Q (F0 m pc ls (v :: .ref a :: rest)) :=
  va_put C.1.1.1 C.1.1.2.1 C.1.1.2.2.2.2 hin ty0 hty hnm C.1.1.2.2.2.1 C.1.2.1 h.1 h.2.1 h.2.2 q0 he hc k hk (C.1.1.2.2.2.2 _ hlink) (fun _ h9 => hsame ▸ h9) hfin (hty k hk) hn hfit hl hdg (fun H1 locs1 a1 a2 a3 => kk H1 locs1 ⟨a1, a2, a3⟩)
theorem r_putN (C : gC p m c cc nL s args Ts own G A) (h : gS G A s ws H locs) (q0 : Nat) {a ci : Nat} {fs : List Value} (he : ws[q0]? = some (a, .inr (ci, fs))) {Cn : String} {T : u_T} {N : Nat} (hc : vwCl[ci]? = some (Cn, T, N)) (hin : ∀ w ∈ u_ws Cn T N, w ∈ Ts) (ty0 : Nat → FieldType) (hty : ∀ k, k < N → parseFieldDescriptor (T k).2.2.1 = some (ty0 k)) (hnm : ∀ a, a < N → ∀ b, b < N → a ≠ b → (T a).2.1 ≠ (T b).2.1) (k : Nat) (hk : k < N) {index : Nat} {ref host : String} (hlink : Cond.fieldLinkNest own index ref (T k).2.1 (T k).2.2.1 host ∈ nW) (hsame : (T k).1 = ref) (hfin : (T k).2.2.2 = false) {v : Value} (hn : narrow (ty0 k) v = v) (hfit : fits (ty0 k) v = true) (hl : k < fs.length) (hdg : decode cc pc = .ok (.putfield index, 3)) (kk : ∀ (H1 : Heap) (locs1 : List Loc), gS G A s (ws.set q0 (a, .inr (ci, fs.set k v))) H1 locs1 → W p l e R s m args below meth c H1 locs1 cells slots Q (F0 m (pc + 3) ls rest)) : W p l e R s m args below meth c H locs cells slots Q (F0 m pc ls (v :: .ref a :: rest)) :=
  va_putN C.1.1.1 C.1.1.2.1 C.1.1.2.2.2.2 hin ty0 hty hnm C.1.1.2.2.2.1 C.1.2.1 h.1 h.2.1 h.2.2 q0 he hc k hk (va_Nw.use rfl (C.1.2.2 _ hlink)) (fun _ h9 => hsame ▸ h9) hfin (hty k hk) hn hfit hl hdg (fun H1 locs1 a1 a2 a3 => kk H1 locs1 ⟨a1, a2, a3⟩)
theorem r_putF (C : gC p m c cc nL s args Ts own G A) (h : gS G A s ws H locs) (q0 : Nat) {a ci : Nat} {fs : List Value} (he : ws[q0]? = some (a, .inr (ci, fs))) {Cn : String} {T : u_T} {N : Nat} (hc : vwCl[ci]? = some (Cn, T, N)) (hin : ∀ w ∈ u_ws Cn T N, w ∈ Ts) (ty0 : Nat → FieldType) (hty : ∀ k, k < N → parseFieldDescriptor (T k).2.2.1 = some (ty0 k)) (hnm : ∀ a, a < N → ∀ b, b < N → a ≠ b → (T a).2.1 ≠ (T b).2.1) (k : Nat) (hk : k < N) {index : Nat} {ref  : String} (hlink : Cond.fieldLink own index ref (T k).2.1 (T k).2.2.1 ∈ Ts) (hsame : (T k).1 = ref) (hfin : (T k).2.2.2 = true) (hin2 : meth.name = "<init>") (hdecl : (T k).1 = own) {v : Value} (hn : narrow (ty0 k) v = v) (hfit : fits (ty0 k) v = true) (hl : k < fs.length) (hdg : decode cc pc = .ok (.putfield index, 3)) (kk : ∀ (H1 : Heap) (locs1 : List Loc), gS G A s (ws.set q0 (a, .inr (ci, fs.set k v))) H1 locs1 → W p l e R s m args below meth c H1 locs1 cells slots Q (F0 m (pc + 3) ls rest)) : W p l e R s m args below meth c H locs cells slots Q (F0 m pc ls (v :: .ref a :: rest)) :=
  va_putF C.1.1.1 C.1.1.2.1 C.1.1.2.2.2.2 hin ty0 hty hnm C.1.1.2.2.2.1 C.1.2.1 h.1 h.2.1 h.2.2 q0 he hc k hk (C.1.1.2.2.2.2 _ hlink) (fun _ h9 => hsame ▸ h9) hfin hin2 hdecl (hty k hk) hn hfit hl hdg (fun H1 locs1 a1 a2 a3 => kk H1 locs1 ⟨a1, a2, a3⟩)
theorem r_bald (C : gC p m c cc nL s args Ts own G A) (h : gS G A s ws H locs) (q0 : Nat) {a n : Nat} {f : Nat → Int32} (ha : ws[q0]? = some (a, .inl (G.2.2 0, n, .inl f))) {i : Int32} (hin : vp_in i n) (hdg : decode cc pc = .ok (.baload, 1)) (kk : W p l e R s m args below meth c H locs cells slots Q (F0 m (pc + 1) ls (.int (f i.toNatClampNeg) :: rest))) : W p l e R s m args below meth c H locs cells slots Q (F0 m pc ls (.int i :: .ref a :: rest)) :=
  va_bald C.1.1.1 C.1.1.2.1 C.1.2.1 h.1 q0 0 ha rfl hin hdg kk
theorem r_bast (C : gC p m c cc nL s args Ts own G A) (h : gS G A s ws H locs) (q0 : Nat) {a n : Nat} {f : Nat → Int32} (ha : ws[q0]? = some (a, .inl (G.2.2 0, n, .inl f))) {i : Int32} {x : Int32} (hin : vp_in i n) (hdg : decode cc pc = .ok (.bastore, 1)) (kk : ∀ (H1 : Heap) (locs1 : List Loc), gS G A s (ws.set q0 (a, .inl (G.2.2 0, n, .inl (upd f i.toNatClampNeg (vp_nar .byte x))))) H1 locs1 → W p l e R s m args below meth c H1 locs1 cells slots Q (F0 m (pc + 1) ls rest)) : W p l e R s m args below meth c H locs cells slots Q (F0 m pc ls (.int x :: .int i :: .ref a :: rest)) :=
  va_bast C.1.1.1 C.1.1.2.1 C.1.2.1 h.1 h.2.1 h.2.2 q0 0 ha rfl hin hdg (fun H1 locs1 a1 a2 a3 => kk H1 locs1 ⟨a1, a2, a3⟩)
theorem r_iald (C : gC p m c cc nL s args Ts own G A) (h : gS G A s ws H locs) (q0 : Nat) {a n : Nat} {f : Nat → Int32} (ha : ws[q0]? = some (a, .inl (G.2.2 1, n, .inl f))) {i : Int32} (hin : vp_in i n) (hdg : decode cc pc = .ok (.iaload, 1)) (kk : W p l e R s m args below meth c H locs cells slots Q (F0 m (pc + 1) ls (.int (f i.toNatClampNeg) :: rest))) : W p l e R s m args below meth c H locs cells slots Q (F0 m pc ls (.int i :: .ref a :: rest)) :=
  va_iald C.1.1.1 C.1.1.2.1 C.1.2.1 h.1 q0 1 ha rfl hin hdg kk
theorem r_iast (C : gC p m c cc nL s args Ts own G A) (h : gS G A s ws H locs) (q0 : Nat) {a n : Nat} {f : Nat → Int32} (ha : ws[q0]? = some (a, .inl (G.2.2 1, n, .inl f))) {i : Int32} {x : Int32} (hin : vp_in i n) (hdg : decode cc pc = .ok (.iastore, 1)) (kk : ∀ (H1 : Heap) (locs1 : List Loc), gS G A s (ws.set q0 (a, .inl (G.2.2 1, n, .inl (upd f i.toNatClampNeg x)))) H1 locs1 → W p l e R s m args below meth c H1 locs1 cells slots Q (F0 m (pc + 1) ls rest)) : W p l e R s m args below meth c H locs cells slots Q (F0 m pc ls (.int x :: .int i :: .ref a :: rest)) :=
  va_iast C.1.1.1 C.1.1.2.1 C.1.2.1 h.1 h.2.1 h.2.2 q0 1 ha rfl hin hdg (fun H1 locs1 a1 a2 a3 => kk H1 locs1 ⟨a1, a2, a3⟩)
theorem r_lald (C : gC p m c cc nL s args Ts own G A) (h : gS G A s ws H locs) (q0 : Nat) {a n : Nat} {f : Nat → Int64} (ha : ws[q0]? = some (a, .inl (G.2.2 2, n, .inr (.inl f)))) {i : Int32} (hin : vp_in i n) (hdg : decode cc pc = .ok (.laload, 1)) (kk : W p l e R s m args below meth c H locs cells slots Q (F0 m (pc + 1) ls (.long (f i.toNatClampNeg) :: rest))) : W p l e R s m args below meth c H locs cells slots Q (F0 m pc ls (.int i :: .ref a :: rest)) :=
  va_lald C.1.1.1 C.1.1.2.1 C.1.2.1 h.1 q0 2 ha rfl hin hdg kk
theorem r_last (C : gC p m c cc nL s args Ts own G A) (h : gS G A s ws H locs) (q0 : Nat) {a n : Nat} {f : Nat → Int64} (ha : ws[q0]? = some (a, .inl (G.2.2 2, n, .inr (.inl f)))) {i : Int32} {x : Int64} (hin : vp_in i n) (hdg : decode cc pc = .ok (.lastore, 1)) (kk : ∀ (H1 : Heap) (locs1 : List Loc), gS G A s (ws.set q0 (a, .inl (G.2.2 2, n, .inr (.inl (vp_updL f i.toNatClampNeg x))))) H1 locs1 → W p l e R s m args below meth c H1 locs1 cells slots Q (F0 m (pc + 1) ls rest)) : W p l e R s m args below meth c H locs cells slots Q (F0 m pc ls (.long x :: .int i :: .ref a :: rest)) :=
  va_last C.1.1.1 C.1.1.2.1 C.1.2.1 h.1 h.2.1 h.2.2 q0 2 ha rfl hin hdg (fun H1 locs1 a1 a2 a3 => kk H1 locs1 ⟨a1, a2, a3⟩)
theorem r_zald (C : gC p m c cc nL s args Ts own G A) (h : gS G A s ws H locs) (q0 : Nat) {a n : Nat} {f : Nat → Int32} (ha : ws[q0]? = some (a, .inl (G.2.2 3, n, .inl f))) {i : Int32} (hin : vp_in i n) (hdg : decode cc pc = .ok (.baload, 1)) (kk : W p l e R s m args below meth c H locs cells slots Q (F0 m (pc + 1) ls (.int (f i.toNatClampNeg) :: rest))) : W p l e R s m args below meth c H locs cells slots Q (F0 m pc ls (.int i :: .ref a :: rest)) :=
  va_zald C.1.1.1 C.1.1.2.1 C.1.2.1 h.1 q0 3 ha rfl hin hdg kk
theorem r_zast (C : gC p m c cc nL s args Ts own G A) (h : gS G A s ws H locs) (q0 : Nat) {a n : Nat} {f : Nat → Int32} (ha : ws[q0]? = some (a, .inl (G.2.2 3, n, .inl f))) {i : Int32} {x : Int32} (hin : vp_in i n) (hdg : decode cc pc = .ok (.bastore, 1)) (kk : ∀ (H1 : Heap) (locs1 : List Loc), gS G A s (ws.set q0 (a, .inl (G.2.2 3, n, .inl (upd f i.toNatClampNeg (vp_nar .boolean x))))) H1 locs1 → W p l e R s m args below meth c H1 locs1 cells slots Q (F0 m (pc + 1) ls rest)) : W p l e R s m args below meth c H locs cells slots Q (F0 m pc ls (.int x :: .int i :: .ref a :: rest)) :=
  va_zast C.1.1.1 C.1.1.2.1 C.1.2.1 h.1 h.2.1 h.2.2 q0 3 ha rfl hin hdg (fun H1 locs1 a1 a2 a3 => kk H1 locs1 ⟨a1, a2, a3⟩)
theorem r_alen (C : gC p m c cc nL s args Ts own G A) (h : gS G A s ws H locs) (q0 t0 : Nat) {a : Nat} {cA : ClassId} {x : vp_A} (ha : ws[q0]? = some (a, .inl (cA, x))) {ty : FieldType} (ht : (gT G)[t0]? = some (cA, ty)) (hdg : decode cc pc = .ok (.arraylength, 1)) (kk : W p l e R s m args below meth c H locs cells slots Q (F0 m (pc + 1) ls (.int (nI x.1) :: rest))) : W p l e R s m args below meth c H locs cells slots Q (F0 m pc ls (.ref a :: rest)) :=
  va_alen C.1.1.1 C.1.1.2.1 C.1.2.1 h.1 q0 t0 ha ht rfl hdg kk
theorem r_newa (C : gC p m c cc nL s args Ts own G A) (h : gS G A s ws H locs) {atype : ArrayType} {ty : FieldType} (hty : newarray.typeOf atype = ty) (t0 : Nat) {cA : ClassId} (ht : (gT G)[t0]? = some (cA, ty)) (hnm : va_RA s cA ty → s.vm.findClass ("[" ++ ty.toString) = some cA) (harr : Cond.arrayClass ty ∈ Ts) {n : Int32} {N' : Nat} {a0 : vp_A} (ha : ∀ cA : ClassId, vp_cell cA a0 = arrV cA N' (fun _ => defaultValue ty)) (hn : ¬ n < 0) (hN : n.toNatClampNeg = N') (hbytes : N' * componentBytes ty ≤ 536870912) (hcells : cells + 1 ≤ R.cells) (hslots : slots + N' ≤ R.slots) (hdg : decode cc pc = .ok (.newarray atype, 2))
    (kk : ∀ (q : Nat) (H1 : Heap), gS G A s (ws ++ [(q, .inl (cA, a0))]) H1 locs → W p l e R s m args below meth c H1 locs (cells + 1) (slots + N') Q (F0 m (pc + 2) ls (.ref q :: rest))) : W p l e R s m args below meth c H locs cells slots Q (F0 m pc ls (.int n :: rest)) :=
  by
  have h0 := (C.1.2.1.2 t0 _ ht).2
  subst hty
  refine va_newa C.1.1.1 C.1.1.2.1 (C.1.1.2.2.2.2 _ harr) rfl C.1.2.1 h.1 h.2.1 h.2.2 C.2 ha hn hN hbytes hcells hslots hdg (fun q cB H1 b1 b2 b3 b4 => ?_)
  have h1 := (b1.2 6 (cB, newarray.typeOf atype) rfl).2
  have e : cB = cA := by
    have x0 := hnm h0
    have x1 : s.vm.findClass ("[" ++ (newarray.typeOf atype).toString) = some cB := by cases atype <;> exact h1
    exact Option.some.inj (x1.symm.trans x0)
  subst e
  exact kk q H1 ⟨b2, b3, b4⟩
theorem r_new (C : gC p m c cc nL s args Ts own G A) (h : gS G A s ws H locs) {Cn : String} {T : u_T} {N ci index : Nat} (hin : ∀ w ∈ u_ws Cn T N, w ∈ Ts) (ty : Nat → FieldType) (hty : ∀ k, k < N → parseFieldDescriptor (T k).2.2.1 = some (ty k)) (hcl : Cond.classLink own index Cn ∈ Ts) (hinst : Cond.instantiable Cn N ∈ Ts) (hini : Cond.initialized Cn ∈ Ts) (hc : vwCl[ci]? = some (Cn, T, N)) {fs : List Value} (hfs : ∀ j, j < N → defaultValue (ty j) = vp_V fs j) (hcells : cells + 1 ≤ R.cells) (hslots : slots + N ≤ R.slots) (hdg : decode cc pc = .ok (.new index, 3))
    (kk : ∀ (q : Nat) (H1 : Heap), gS G A s (ws ++ [(q, .inr (ci, fs))]) H1 locs → W p l e R s m args below meth c H1 locs (cells + 1) (slots + N) Q (F0 m (pc + 3) ls (.ref q :: rest))) : W p l e R s m args below meth c H locs cells slots Q (F0 m pc ls rest) :=
  va_new C.1.1.1 C.1.1.2.1 C.1.1.2.2.2.2 hin ty hty C.1.1.2.2.2.1 (C.1.1.2.2.2.2 _ hcl) (C.1.1.2.2.2.2 _ hinst) (C.1.1.2.2.2.2 _ hini) C.1.2.1 h.1 h.2.1 h.2.2 C.2 hc hfs hcells hslots hdg (fun q H1 b1 b2 b3 => kk q H1 ⟨b1, b2, b3⟩)
theorem r_ldc (C : gC p m c cc nL s args Ts own G A) {index : Nat} {v : Int32} (hk : Cond.constant own index v ∈ Ts) (hdg : decode cc pc = .ok (.ldc index, 2)) (kk : W p l e R s m args below meth c H locs cells slots Q (F0 m (pc + 2) ls (.int v :: rest))) : W p l e R s m args below meth c H locs cells slots Q (F0 m pc ls rest) :=
  lv_ldc C.1.1.1 C.1.1.2.1 C.1.1.2.2.2.1 (C.1.1.2.2.2.2 _ hk) hdg kk
theorem r_ldc2 (C : gC p m c cc nL s args Ts own G A) {index : Nat} {v : Int64} (hk : Cond.constantLong own index v ∈ Ts) (hdg : decode cc pc = .ok (.ldc2_w index, 3)) (kk : W p l e R s m args below meth c H locs cells slots Q (F0 m (pc + 3) ls (.long v :: rest))) : W p l e R s m args below meth c H locs cells slots Q (F0 m pc ls rest) :=
  lv_ldc2 C.1.1.1 C.1.1.2.1 C.1.1.2.2.2.1 (C.1.1.2.2.2.2 _ hk) hdg kk
theorem r_objInit (C : gC p m c cc nL s args Ts own G A) {idx : Nat} (h1 : Cond.methodLink own idx objectInit ∈ Ts) (h2 : Cond.instanceMethod objectInit ∈ Ts) (h3 : Cond.code objectInit ⟨#[0xb1]⟩ 1 none ∈ Ts) {a : Nat} (hsz : ls.size = nL) (hdg : decode cc pc = .ok (.invokespecial idx, 3)) (hfr : 1 ≤ R.frames) (hlo : 2 * (F0 m pc ls (.ref a :: rest)).monitorRoom + (rest.map fun v => v.category).sum + 12 ≤ R.locals) (kk : W p l e R s m args below meth c H locs cells slots Q (F0 m (pc + 3) ls rest)) : W p l e R s m args below meth c H locs cells slots Q (F0 m pc ls (.ref a :: rest)) :=
  W.objInit C.1.1.1 C.1.1.2.1 C.1.1.2.2.2.1 (C.1.1.2.2.2.2 _ h1) (C.1.1.2.2.2.2 _ h2) (C.1.1.2.2.2.2 _ h3) rfl (by rw [C.1.1.2.2.1]; exact hsz) rfl hdg hfr hlo kk
theorem r_iret (C : gC p m c cc nL s args Ts own G A) (h : gS G A s ws H locs) {S : Type} {post : Int32 → S → Prop} {ws' : S → va_W} {mc ms : Nat} (hr : meth.sig.returnType = some .int) (hlk : meth.locks = false) (hc : cells ≤ mc) (hs : slots ≤ ms) {v : Int32} (u : S) (hp : post v u) (hw : ws = ws' u) (hdg : decode cc pc = .ok (.ireturn, 1)) : W p l e R s m args below meth c H locs cells slots (MQ below (qI G post ws' A) args s mc ms A) (F0 m pc ls [.int v]) :=
  W.widen hc hs (W.iret C.1.1.1 C.1.1.2.1 hr (fun t ht hW => ⟨⟨v, u, rfl, hp, by rw [ht, ← hw]; exact h.1, by rw [← hw]; exact h.2.1⟩, h.2.2.F ht⟩) h.2.2.2.2 hdg hlk)
theorem r_lret (C : gC p m c cc nL s args Ts own G A) (h : gS G A s ws H locs) {S : Type} {post : Int64 → S → Prop} {ws' : S → va_W} {mc ms : Nat} (hr : meth.sig.returnType = some .long) (hlk : meth.locks = false) (hc : cells ≤ mc) (hs : slots ≤ ms) {v : Int64} (u : S) (hp : post v u) (hw : ws = ws' u) (hdg : decode cc pc = .ok (.lreturn, 1)) : W p l e R s m args below meth c H locs cells slots (MQ below (qL G post ws' A) args s mc ms A) (F0 m pc ls [.long v]) :=
  W.widen hc hs (W.lret C.1.1.1 C.1.1.2.1 hr (fun t ht hW => ⟨⟨v, u, rfl, hp, by rw [ht, ← hw]; exact h.1, by rw [← hw]; exact h.2.1⟩, h.2.2.F ht⟩) h.2.2.2.2 hdg hlk)
theorem r_vret (C : gC p m c cc nL s args Ts own G A) (h : gS G A s ws H locs) {S : Type} {post : S → Prop} {ws' : S → va_W} {mc ms : Nat} (hr : meth.sig.returnType = none) (hlk : meth.locks = false) (hc : cells ≤ mc) (hs : slots ≤ ms) (u : S) (hp : post u) (hw : ws = ws' u) (hdg : decode cc pc = .ok (.return_, 1)) : W p l e R s m args below meth c H locs cells slots (MQ below (qV G post ws' A) args s mc ms A) (F0 m pc ls []) :=
  W.widen hc hs (W.vret C.1.1.1 C.1.1.2.1 hr (fun t ht hW => ⟨⟨u, rfl, hp, by rw [ht, ← hw]; exact h.1, by rw [← hw]; exact h.2.1⟩, h.2.2.F ht⟩) h.2.2.2.2 hdg hlk)
theorem r_zret (C : gC p m c cc nL s args Ts own G A) (h : gS G A s ws H locs) {S : Type} {post : Int32 → S → Prop} {ws' : S → va_W} {mc ms : Nat} (hr : meth.sig.returnType = some .boolean) (hlk : meth.locks = false) (hc : cells ≤ mc) (hs : slots ≤ ms) {v : Int32} (hv : v = 0 ∨ v = 1) (u : S) (hp : post v u) (hw : ws = ws' u) (hdg : decode cc pc = .ok (.ireturn, 1)) : W p l e R s m args below meth c H locs cells slots (MQ below (qI G post ws' A) args s mc ms A) (F0 m pc ls [.int v]) :=
  W.widen hc hs (W.zret C.1.1.1 C.1.1.2.1 hr (by rcases hv with rfl | rfl <;> rfl) (fun t ht hW => ⟨⟨v, u, rfl, hp, by rw [ht, ← hw]; exact h.1, by rw [← hw]; exact h.2.1⟩, h.2.2.F ht⟩) h.2.2.2.2 hdg hlk)
theorem r_aret (C : gC p m c cc nL s args Ts own G A) (h : gS G A s ws H locs) {S : Type} {post : S → Prop} {ws' : S → Nat → va_W} {mc ms : Nat} {rt : FieldType} (hr : meth.sig.returnType = some rt) (hrt : (∃ n, rt = .object n) ∨ ∃ t, rt = .array t) (hlk : meth.locks = false) (hc : cells ≤ mc) (hs : slots ≤ ms) {v : Nat} (u : S) (hp : post u) (hw : ws = ws' u v) (hdg : decode cc pc = .ok (.areturn, 1)) : W p l e R s m args below meth c H locs cells slots (MQ below (qR G post ws' A) args s mc ms A) (F0 m pc ls [.ref v]) :=
  W.widen hc hs (W.aret C.1.1.1 C.1.1.2.1 hr hrt (Or.inr ⟨v, rfl⟩) (fun t ht hW => ⟨⟨u, v, rfl, hp, by rw [ht, ← hw]; exact h.1, by rw [← hw]; exact h.2.1⟩, h.2.2.F ht⟩) h.2.2.2.2 hdg hlk)
theorem gS.cut {wc wr : va_W} (C : gC p m c cc nL s args Ts own G A) (h : gS G A s ws H locs) (hp : ws.Perm (wc ++ wr)) : va_P (gD G) vwCl wc H ∧ va_D A wc ∧ ∀ q, va_A wc H.size q → A q := by
  obtain ⟨h1, h2, h3⟩ := h.perm hp
  have e : ∀ (k : Nat) (q : Nat × va_E), wc[k]? = some q → (wc ++ wr)[k]? = some q := fun k q hk => by
    rw [List.getElem?_append_left (List.getElem?_eq_some_iff.mp hk).1]; exact hk
  refine ⟨fun k q hk => h1 k q (e k q hk), ⟨fun i j x y hi hj he => h2.1 i j x y (e i x hi) (e j y hj) he, fun k q hk => h2.2 k q (e k q hk)⟩, ?_⟩
  intro q hq
  rcases hq with ⟨k, e0, hk⟩ | hq
  · exact h2.2 k _ (e k _ hk)
  · exact C.2 q (Nat.le_trans h3.1 hq)
theorem gS.join {wc wr w1 : va_W} {H1 : Heap} {locs1 : List Loc} (h : gS G A s ws H locs) (hp : ws.Perm (wc ++ wr)) (hF : ∀ q, va_A wc H.size q → A q) (hk : ∀ q : Nat, q < H.size → ¬ va_A wc H.size q → H1[q]? = H[q]?) (hP1 : va_P (gD G) vwCl w1 H1) (hD1 : va_D (va_A wc H.size) w1) (hS : va_S A s.heap H1 locs1) : gS G A s (w1 ++ wr) H1 locs1 := by
  obtain ⟨h1, h2, h3⟩ := h.perm hp
  have er : ∀ (k : Nat) (q : Nat × va_E), wr[k]? = some q → (wc ++ wr)[wc.length + k]? = some q := fun k q hk => by
    rw [List.getElem?_append_right (Nat.le_add_right _ _), Nat.add_sub_cancel_left]; exact hk
  have ap : ∀ (k : Nat) (q : Nat × va_E), wr[k]? = some q → q.1 < H.size ∧ ¬ va_A wc H.size q.1 := fun k q hq => by
    have hl := (h1 _ q (er k q hq)).lt
    refine ⟨hl, fun z => ?_⟩
    rcases z with ⟨k2, e0, z⟩ | z
    · have z1 := (List.getElem?_eq_some_iff.mp z).1
      have z2 : (wc ++ wr)[k2]? = some (q.1, e0) := by rw [List.getElem?_append_left z1]; exact z
      have := h2.1 _ _ _ _ (er k q hq) z2 rfl
      omega
    · omega
  refine ⟨va_P.app hP1 (fun k q hq => (h1 _ q (er k q hq)).kept (hk _ (ap k q hq).1 (ap k q hq).2)), va_D.app (hD1.weaken (fun _ q _ z => hF q.1 z)) ⟨fun i j x y hi hj he => ?_, fun k q hq => h2.2 _ q (er k q hq)⟩ (fun i j x y hx hy hxy => ?_), hS⟩
  · have := h2.1 _ _ _ _ (er i x hi) (er j y hj) he
    omega
  · exact (ap j y hy).2 (by rw [← hxy]; exact hD1.2 i x hx)
variable {y : MethodName} {bytes : ByteArray} {maxL index n fr lo mc ms : Nat} {ret : Option FieldType} {wsC : List Cond} {wc wr : va_W} {As : List Value} {b : Nat} {Qc : (Nat → Prop) → Array Value → State → Outcome → State → Prop}
theorem r_runV (C : gC p m c cc nL s args Ts own G A) (h : gS G A s ws H locs) (hp : ws.Perm (wc ++ wr)) {Cn : String} {T : u_T} {N ci : Nat} (q0 : Nat) {fs : List Value} (hq : wc[q0]? = some (b, .inr (ci, fs))) (hc : vwCl[ci]? = some (Cn, T, N)) (hM : cM l y wsC fr lo mc ms G (.ref b :: As) wc Qc) (cw : CallW R s args own Cn index y bytes maxL ret wsC (gR fr lo mc ms) mc ms n) (hn : As.length = n) (hsz : ls.size = nL) (hst : (rest.map fun v => v.category).sum ≤ 8) (hdg : decode cc pc = .ok (.invokevirtual index, 3)) (hf : cells + mc ≤ R.cells ∧ slots + ms ≤ R.slots) :
    va_Run p l e R s m args below meth c H locs cells slots mc ms (F0 m pc ls (As.reverse ++ .ref b :: rest)) rest (Qc (va_A wc H.size) (Value.ref b :: As).toArray) (va_A wc H.size) := by
  obtain ⟨h1, h2, h3⟩ := h.cut C hp
  exact va_runV C.1.1 (hM H.size) cw ⟨gB_blind, va_recv C.1.2.1 h1 hc hq, fun U hU hW => ⟨rfl, by rw [hU], by rw [hU]; exact h1, h2.weaken (fun _ _ _ _ => trivial), C.1.2.warm hW⟩⟩ rfl hn hsz rfl (lv_room hst) hdg hf
theorem r_runS (C : gC p m c cc nL s args Ts own G A) (h : gS G A s ws H locs) (hp : ws.Perm (wc ++ wr)) (hM : cM l y wsC fr lo mc ms G As wc Qc) (cw : CallB R s args own index y bytes maxL ret wsC (gR fr lo mc ms) mc ms n ∧ (Cond.static y).before args s = true) (hn : As.length = n) (hsz : ls.size = nL) (hst : (rest.map fun v => v.category).sum ≤ 8) (hdg : decode cc pc = .ok (.invokestatic index, 3)) (hf : cells + mc ≤ R.cells ∧ slots + ms ≤ R.slots) :
    va_Run p l e R s m args below meth c H locs cells slots mc ms (F0 m pc ls (As.reverse ++ rest)) rest (Qc (va_A wc H.size) As.toArray) (va_A wc H.size) := by
  obtain ⟨h1, h2, h3⟩ := h.cut C hp
  exact va_runS C.1.1 (hM H.size) cw ⟨gB_blind, fun U hU hW => ⟨rfl, by rw [hU], by rw [hU]; exact h1, h2.weaken (fun _ _ _ _ => trivial), C.1.2.warm hW⟩⟩ rfl hn hsz rfl (lv_room hst) hdg hf
theorem r_runI (C : gC p m c cc nL s args Ts own G A) (h : gS G A s ws H locs) (hp : ws.Perm (wc ++ wr)) (hM : cM l y wsC fr lo mc ms G (.ref b :: As) wc Qc) (cw : CallB R s args own index y bytes maxL none wsC (gR fr lo mc ms) mc ms n ∧ y.name = "<init>" ∧ (Cond.instanceMethod y).before args s = true) (hn : As.length = n) (hsz : ls.size = nL) (hst : (rest.map fun v => v.category).sum ≤ 8) (hdg : decode cc pc = .ok (.invokespecial index, 3)) (hf : cells + mc ≤ R.cells ∧ slots + ms ≤ R.slots) :
    va_Run p l e R s m args below meth c H locs cells slots mc ms (F0 m pc ls (As.reverse ++ .ref b :: rest)) rest (Qc (va_A wc H.size) (Value.ref b :: As).toArray) (va_A wc H.size) := by
  obtain ⟨h1, h2, h3⟩ := h.cut C hp
  exact va_runI C.1.1 (hM H.size) cw ⟨gB_blind, fun U hU hW => ⟨rfl, by rw [hU], by rw [hU]; exact h1, h2.weaken (fun _ _ _ _ => trivial), C.1.2.warm hW⟩⟩ rfl hn hsz rfl (lv_room hst) hdg hf
theorem r_runIN (C : gC p m c cc nL s args Ts own G A) (h : gS G A s ws H locs) (hp : ws.Perm (wc ++ wr)) {host : String} (hM : cM l y wsC fr lo mc ms G (.ref b :: As) wc Qc) (cw : va_CN R s args own index y host bytes maxL none wsC (gR fr lo mc ms) mc ms n ∧ y.name = "<init>" ∧ (Cond.instanceMethod y).before args s = true) (hn : As.length = n) (hsz : ls.size = nL) (hst : (rest.map fun v => v.category).sum ≤ 8) (hdg : decode cc pc = .ok (.invokespecial index, 3)) (hf : cells + mc ≤ R.cells ∧ slots + ms ≤ R.slots) :
    va_Run p l e R s m args below meth c H locs cells slots mc ms (F0 m pc ls (As.reverse ++ .ref b :: rest)) rest (Qc (va_A wc H.size) (Value.ref b :: As).toArray) (va_A wc H.size) := by
  obtain ⟨h1, h2, h3⟩ := h.cut C hp
  exact va_runIN C.1.1 (hM H.size) cw ⟨gB_blind, fun U hU hW => ⟨rfl, by rw [hU], by rw [hU]; exact h1, h2.weaken (fun _ _ _ _ => trivial), C.1.2.warm hW⟩⟩ rfl hn hsz rfl (lv_room hst) hdg hf
theorem k_i {S : Type} {post : Int32 → S → Prop} {ws' : S → va_W} {st0 : List Value} {a : Array Value} (C : gC p m c cc nL s args Ts own G A) (h : gS G A s ws H locs) (hp : ws.Perm (wc ++ wr)) (hr : va_Run p l e R s m args below meth c H locs cells slots mc ms (F0 m pc ls st0) rest (qI G post ws' (va_A wc H.size) a) (va_A wc H.size))
    (kk : ∀ (r : Int32) (u : S) (H1 : Heap) (locs1 : List Loc), post r u → gS G A s (ws' u ++ wr) H1 locs1 → W p l e R s m args below meth c H1 locs1 (cells + mc) (slots + ms) Q (F0 m (pc + 3) ls (.int r :: rest))) : W p l e R s m args below meth c H locs cells slots Q (F0 m pc ls st0) := by
  obtain ⟨h1, h2, h3⟩ := h.cut C hp
  refine va_calli hr h.2.2 (fun q _ z => h3 q z) h3 (fun r u t H1 locs1 ht hvm hw hB hz1 hk1 hS => ?_)
  obtain ⟨b1, b2⟩ := hB
  rw [ht] at b1
  exact kk r u H1 locs1 hw (h.join hp h3 hk1 b1 b2 hS)
theorem k_l {S : Type} {post : Int64 → S → Prop} {ws' : S → va_W} {st0 : List Value} {a : Array Value} (C : gC p m c cc nL s args Ts own G A) (h : gS G A s ws H locs) (hp : ws.Perm (wc ++ wr)) (hr : va_Run p l e R s m args below meth c H locs cells slots mc ms (F0 m pc ls st0) rest (qL G post ws' (va_A wc H.size) a) (va_A wc H.size))
    (kk : ∀ (r : Int64) (u : S) (H1 : Heap) (locs1 : List Loc), post r u → gS G A s (ws' u ++ wr) H1 locs1 → W p l e R s m args below meth c H1 locs1 (cells + mc) (slots + ms) Q (F0 m (pc + 3) ls (.long r :: rest))) : W p l e R s m args below meth c H locs cells slots Q (F0 m pc ls st0) := by
  obtain ⟨h1, h2, h3⟩ := h.cut C hp
  refine va_calll hr h.2.2 (fun q _ z => h3 q z) h3 (fun r u t H1 locs1 ht hvm hw hB hz1 hk1 hS => ?_)
  obtain ⟨b1, b2⟩ := hB
  rw [ht] at b1
  exact kk r u H1 locs1 hw (h.join hp h3 hk1 b1 b2 hS)
theorem k_v {S : Type} {post : S → Prop} {ws' : S → va_W} {st0 : List Value} {a : Array Value} (C : gC p m c cc nL s args Ts own G A) (h : gS G A s ws H locs) (hp : ws.Perm (wc ++ wr)) (hr : va_Run p l e R s m args below meth c H locs cells slots mc ms (F0 m pc ls st0) rest (qV G post ws' (va_A wc H.size) a) (va_A wc H.size))
    (kk : ∀ (u : S) (H1 : Heap) (locs1 : List Loc), post u → gS G A s (ws' u ++ wr) H1 locs1 → W p l e R s m args below meth c H1 locs1 (cells + mc) (slots + ms) Q (F0 m (pc + 3) ls rest)) : W p l e R s m args below meth c H locs cells slots Q (F0 m pc ls st0) := by
  obtain ⟨h1, h2, h3⟩ := h.cut C hp
  refine va_callv hr h.2.2 (fun q _ z => h3 q z) h3 (fun u t H1 locs1 ht hvm hw hB hz1 hk1 hS => ?_)
  obtain ⟨b1, b2⟩ := hB
  rw [ht] at b1
  exact kk u H1 locs1 hw (h.join hp h3 hk1 b1 b2 hS)
theorem k_r {S : Type} {post : S → Prop} {ws' : S → Nat → va_W} {st0 : List Value} {a : Array Value} (C : gC p m c cc nL s args Ts own G A) (h : gS G A s ws H locs) (hp : ws.Perm (wc ++ wr)) (hr : va_Run p l e R s m args below meth c H locs cells slots mc ms (F0 m pc ls st0) rest (qR G post ws' (va_A wc H.size) a) (va_A wc H.size))
    (kk : ∀ (u : S) (q : Nat) (H1 : Heap) (locs1 : List Loc), post u → gS G A s (ws' u q ++ wr) H1 locs1 → W p l e R s m args below meth c H1 locs1 (cells + mc) (slots + ms) Q (F0 m (pc + 3) ls (.ref q :: rest))) : W p l e R s m args below meth c H locs cells slots Q (F0 m pc ls st0) := by
  obtain ⟨h1, h2, h3⟩ := h.cut C hp
  refine va_callr hr h.2.2 (fun q _ z => h3 q z) h3 (fun u q t H1 locs1 ht hvm hw hB hz1 hk1 hS => ?_)
  obtain ⟨b1, b2⟩ := hB
  rw [ht] at b1
  exact kk u q H1 locs1 hw (h.join hp h3 hk1 b1 b2 hS)
/-- a contract out of a walk -/
theorem o_M {wsC' : List Cond} {av : List Value} (hy : plainName y.cls = true) (hw : wsC = Cond.code y cc maxL ret :: wsC') (hown : y.cls = own) (hlen : (lg_sl av).length ≤ maxL)
    (body : ∀ (p : Program) (e : Env) (s : State) (m : MethodId) (below : List Frame) (meth : Method) (c : Code) (A : Nat → Prop) (ls : Array Slot) (H : Heap) (locs : List Loc), A = va_A ws s.heap.size → gC p m c cc maxL s av.toArray wsC own G A → gS G A s ws H locs → meth.sig.returnType = ret → meth.locks = false → meth.name = y.name → lv_has ls maxL (lv_args 0 av) →
      W p l e (gR fr lo mc ms) s m av.toArray below meth c H locs 0 0 (MQ below (Qc A) av.toArray s mc ms A) (F0 m 0 ls [])) : cM l y wsC fr lo mc ms G av ws Qc := by
  intro sz
  refine Met.ofW (cc := cc) (maxL := maxL) (ret := ret) hy hw ?_
  intro p e s m args below meth c s₁ B hml hv
  obtain ⟨rfl, hsz, hP, hD0, hK⟩ := hv
  subst hsz
  subst hown
  have hl := lv_entry av (n := maxL) hlen
  rw [lg_entry_eq]
  generalize (lg_sl av ++ List.replicate (maxL - (lg_sl av).length) Slot.unset).toArray = ls at hl ⊢
  exact body p e s m below meth c (va_A ws s.heap.size) ls s.heap [] rfl ⟨⟨⟨B.exec, B.bytes, hml, findClass_of_methodNamed B.named, atoms_spec (ws := wsC) B.pre⟩, hK⟩, fun q z => Or.inr z⟩ ⟨hP, hD0.self, va_S.rf⟩ B.returns B.notSynchronized (name_of_methodNamed B.named B.method).1 hl
end GR
