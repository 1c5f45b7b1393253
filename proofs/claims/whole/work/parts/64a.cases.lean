/-! ===== the law, a case a lemma ===== -/
theorem pmP {E S R P : va_W} (h : E.Perm (S ++ R)) : (E ++ P).Perm ((S ++ P) ++ R) := (pmA h).trans pmTL
theorem pmAT {E S R A T P : va_W} (h : E.Perm (S ++ R)) : (E ++ (A ++ (T ++ P))).Perm ((S ++ (A ++ T)) ++ (R ++ P)) := by
  have h1 := List.Perm.append_right P (pmP (P := A ++ T) h)
  rw [List.append_assoc, List.append_assoc, List.append_assoc] at h1
  exact h1
theorem pmD {E S R P : va_W} (h : E.Perm (S ++ R)) : (E ++ P).Perm (S ++ (R ++ P)) := pmB h
theorem pxN : List.Perm ([] : va_W) ([] ++ []) := List.Perm.refl _
theorem pxK {x : Nat × va_E} {l a b : va_W} (h : List.Perm l (a ++ b)) : List.Perm (x :: l) ((x :: a) ++ b) := h.cons x
theorem pxS {x : Nat × va_E} {l a b : va_W} (h : List.Perm l (a ++ b)) : List.Perm (x :: l) (a ++ (x :: b)) := (h.cons x).trans List.perm_middle.symm
theorem lt_b (n : Nat) : ltC n ≤ 30 ∧ ltS n ≤ 158112 := by
  have k : ∀ (c : Prop) [Decidable c] (a b m : Nat), a ≤ m → b ≤ m → (if c then a else b) ≤ m := fun c _ a b m h1 h2 => by
    by_cases z : c
    · rw [if_pos z]; exact h1
    · rw [if_neg z]; exact h2
  unfold ltC ltS
  refine ⟨?_, ?_⟩
  · iterate 10 refine k _ _ _ _ (by decide) ?_
    decide
  · iterate 10 refine k _ _ _ _ (by decide) ?_
    decide
theorem r_runSW {p : Program} {l : Launch} {e : Env} {R : Room} {s : State} {m : MethodId} {args : Array Value} {below : List Frame} {meth : Method} {c : Code} {cc : ByteArray} {nL : Nat} {Ts : List Cond} {own : String} {G : gG} {A : Nat → Prop} {ws wc wr : va_W} {H : Heap} {locs : List Loc} {cells slots pc : Nat} {ls : Array Slot} {rest As : List Value} {y : MethodName} {wsC : List Cond} {fr lo mc ms n index maxL : Nat} {bytes : ByteArray} {ret : Option FieldType} {hh : List (Nat × Nat × Nat × Nat)} {Qc : (Nat → Prop) → Array Value → State → Outcome → State → Prop} (C : gC p m c cc nL s args Ts own G A) (h : gS G A s ws H locs) (hp : ws.Perm (wc ++ wr)) (hM : cM l y wsC fr lo mc ms G As wc Qc) (cw : vx_CSW R s args own index y bytes maxL ret hh wsC (gR fr lo mc ms) mc ms n) (hn : As.length = n) (hsz : ls.size = nL) (hst : (rest.map fun v => v.category).sum ≤ 8) (hdg : decode cc pc = .ok (.invokestatic index, 3)) (hf : cells + mc ≤ R.cells ∧ slots + ms ≤ R.slots) :
    va_Run p l e R s m args below meth c H locs cells slots mc ms (F0 m pc ls (As.reverse ++ rest)) rest (Qc (va_A wc H.size) As.toArray) (va_A wc H.size) := by
  obtain ⟨h1, h2, h3⟩ := h.cut C hp
  exact vx_runSW C.1.1 (hM H.size) cw ⟨gB_blind, fun U hU hW => ⟨rfl, by rw [hU], by rw [hU]; exact h1, h2.weaken (fun _ _ _ _ => trivial), C.1.2.warm hW⟩⟩ rfl hn hsz rfl (lv_room hst) hdg hf
theorem r_runSZ {p : Program} {l : Launch} {e : Env} {R : Room} {s : State} {m : MethodId} {args : Array Value} {below : List Frame} {meth : Method} {c : Code} {cc : ByteArray} {nL : Nat} {Ts : List Cond} {own : String} {G : gG} {A : Nat → Prop} {ws wc wr : va_W} {H : Heap} {locs : List Loc} {cells slots pc : Nat} {ls : Array Slot} {rest As : List Value} {y : MethodName} {wsC : List Cond} {fr lo mc ms n index maxL : Nat} {bytes : ByteArray} {ret : Option FieldType} {hh : List (Nat × Nat × Nat × Nat)} {Qc : (Nat → Prop) → Array Value → State → Outcome → State → Prop} (C : gC p m c cc nL s args Ts own G A) (h : gS G A s ws H locs) (hp : ws.Perm (wc ++ wr)) (hxk : xK A s s.heap) (hM : cMZ l y wsC fr lo mc ms G As wc Qc) (cw : vx_CSW R s args own index y bytes maxL ret hh wsC (gR fr lo mc ms) mc ms n) (hn : As.length = n) (hsz : ls.size = nL) (hst : (rest.map fun v => v.category).sum ≤ 8) (hdg : decode cc pc = .ok (.invokestatic index, 3)) (hf : cells + mc ≤ R.cells ∧ slots + ms ≤ R.slots) :
    va_Run p l e R s m args below meth c H locs cells slots mc ms (F0 m pc ls (As.reverse ++ rest)) rest (Qc (va_A wc H.size) As.toArray) (va_A wc H.size) := by
  obtain ⟨h1, h2, h3⟩ := h.cut C hp
  exact vx_runSW C.1.1 (hM H.size) cw ⟨gBZ_blind, fun U hU hW => ⟨⟨rfl, by rw [hU], by rw [hU]; exact h1, h2.weaken (fun _ _ _ _ => trivial), C.1.2.warm hW⟩, by rw [hU]; exact ((hxk.kept h.2.2.2.1).narrow h3).warm hW⟩⟩ rfl hn hsz rfl (lv_room hst) hdg hf
theorem m_feedF (l : Launch) (G : gG) (ad : Nat → Nat) (I : Nat → Int32) (F : Nat → Nat → Int32) (rw : Nat) (gd gl : Int64) (n : Nat) (a b c9 d e9 : Int32) (hn : n ≤ 120) (h23 : I 23 = nI n) : cM l yX10_feed wsX10_feed 1 25 (0) (0) G [.ref (ad 0), .int a, .int b, .int c9, .int d, .int e9] (mW G ad I F rw gd gl) (qI G (S := (Nat → Int32) × Nat) (fun r u => (n + mCt5 a b c9 d e9 ≤ 120 ∧ r = nI u.2 ∧ mFd5 (F 1) n a b c9 d e9 u) ∨ (¬ n + mCt5 a b c9 d e9 ≤ 120 ∧ r = -1 ∧ u = (F 1, n))) (fun u => mW G ad (upd (upd I 23 (nI u.2)) 0 0) (va_up F 1 u.1) rw gd gl)) := by
  have h := m_feed l G ad I F rw gd gl n (F 1) a b c9 d e9 hn
  rw [fa_upd_same h23, va_same (F := F) (k := 1) rfl] at h
  exact h
set_option maxRecDepth 100000 in
theorem px_0 {c0 c1 c2 c3 c4 c5 c6 c7 c8 c9 c10 c11 c12 c13 c14 c15 c16 c17 c18 c19 c20 c21 c22 c23 c24 c25 c26 c27 c28 c29 c30 c31 c32 c33 c34 c35 c36 c37 c38 c39 c40 c41 c42 c43 c44 c45 c46 c47 c48 c49 c50 c51 c52 c53 c54 c55 c56 c57 c58 c59 c60 c61 c62 c63 c64 c65 c66 c67 : Nat × va_E} : List.Perm ([c0, c1, c2, c3, c4, c5, c6, c7, c8, c9, c10, c11, c12, c13, c14, c15, c16, c17, c18, c19, c20, c21, c22, c23, c24, c25, c26, c27, c28, c29, c30, c31, c32, c33, c34, c35, c36, c37, c38, c39, c40, c41, c42, c43, c44, c45, c46, c47, c48, c49, c50, c51, c52, c53, c54, c55, c56, c57, c58, c59, c60, c61, c62, c63, c64, c65, c66, c67] : va_W) ([c0, c1, c2] ++ [c3, c4, c5, c6, c7, c8, c9, c10, c11, c12, c13, c14, c15, c16, c17, c18, c19, c20, c21, c22, c23, c24, c25, c26, c27, c28, c29, c30, c31, c32, c33, c34, c35, c36, c37, c38, c39, c40, c41, c42, c43, c44, c45, c46, c47, c48, c49, c50, c51, c52, c53, c54, c55, c56, c57, c58, c59, c60, c61, c62, c63, c64, c65, c66, c67]) := pxK <| pxK <| pxK <| pxS <| pxS <| pxS <| pxS <| pxS <| pxS <| pxS <| pxS <| pxS <| pxS <| pxS <| pxS <| pxS <| pxS <| pxS <| pxS <| pxS <| pxS <| pxS <| pxS <| pxS <| pxS <| pxS <| pxS <| pxS <| pxS <| pxS <| pxS <| pxS <| pxS <| pxS <| pxS <| pxS <| pxS <| pxS <| pxS <| pxS <| pxS <| pxS <| pxS <| pxS <| pxS <| pxS <| pxS <| pxS <| pxS <| pxS <| pxS <| pxS <| pxS <| pxS <| pxS <| pxS <| pxS <| pxS <| pxS <| pxS <| pxS <| pxS <| pxS <| pxS <| pxS <| pxS <| pxS <| pxS <| pxN
set_option maxRecDepth 100000 in
theorem px_1 {c0 c1 c2 c3 c4 c5 c6 c7 c8 c9 c10 c11 c12 c13 c14 c15 c16 c17 c18 c19 c20 c21 c22 c23 c24 c25 c26 c27 c28 c29 c30 c31 c32 c33 c34 c35 c36 c37 c38 c39 c40 c41 c42 c43 c44 c45 c46 c47 c48 c49 c50 c51 c52 c53 c54 c55 c56 c57 c58 c59 c60 c61 c62 c63 c64 c65 c66 c67 : Nat × va_E} : List.Perm ([c0, c1, c2, c3, c4, c5, c6, c7, c8, c9, c10, c11, c12, c13, c14, c15, c16, c17, c18, c19, c20, c21, c22, c23, c24, c25, c26, c27, c28, c29, c30, c31, c32, c33, c34, c35, c36, c37, c38, c39, c40, c41, c42, c43, c44, c45, c46, c47, c48, c49, c50, c51, c52, c53, c54, c55, c56, c57, c58, c59, c60, c61, c62, c63, c64, c65, c66, c67] : va_W) ([c38, c39, c40, c41, c42, c43, c44, c45, c46, c47, c48, c49, c50, c51, c52, c53, c54, c55, c56, c57, c58, c59, c60, c61, c62, c63, c64, c65, c66] ++ [c0, c1, c2, c3, c4, c5, c6, c7, c8, c9, c10, c11, c12, c13, c14, c15, c16, c17, c18, c19, c20, c21, c22, c23, c24, c25, c26, c27, c28, c29, c30, c31, c32, c33, c34, c35, c36, c37, c67]) := pxS <| pxS <| pxS <| pxS <| pxS <| pxS <| pxS <| pxS <| pxS <| pxS <| pxS <| pxS <| pxS <| pxS <| pxS <| pxS <| pxS <| pxS <| pxS <| pxS <| pxS <| pxS <| pxS <| pxS <| pxS <| pxS <| pxS <| pxS <| pxS <| pxS <| pxS <| pxS <| pxS <| pxS <| pxS <| pxS <| pxS <| pxS <| pxK <| pxK <| pxK <| pxK <| pxK <| pxK <| pxK <| pxK <| pxK <| pxK <| pxK <| pxK <| pxK <| pxK <| pxK <| pxK <| pxK <| pxK <| pxK <| pxK <| pxK <| pxK <| pxK <| pxK <| pxK <| pxK <| pxK <| pxK <| pxK <| pxS <| pxN
set_option maxRecDepth 100000 in
theorem px_2 {c0 c1 c2 c3 c4 c5 c6 c7 c8 c9 c10 c11 c12 c13 c14 c15 c16 c17 c18 c19 c20 c21 c22 c23 c24 c25 c26 c27 c28 c29 c30 c31 c32 c33 c34 c35 c36 c37 c38 c39 c40 c41 c42 c43 c44 c45 c46 c47 c48 c49 c50 c51 c52 c53 c54 c55 c56 c57 c58 c59 c60 c61 c62 c63 c64 c65 c66 c67 : Nat × va_E} : List.Perm ([c0, c1, c2, c3, c4, c5, c6, c7, c8, c9, c10, c11, c12, c13, c14, c15, c16, c17, c18, c19, c20, c21, c22, c23, c24, c25, c26, c27, c28, c29, c30, c31, c32, c33, c34, c35, c36, c37, c38, c39, c40, c41, c42, c43, c44, c45, c46, c47, c48, c49, c50, c51, c52, c53, c54, c55, c56, c57, c58, c59, c60, c61, c62, c63, c64, c65, c66, c67] : va_W) ([c0, c8, c9, c10, c11] ++ [c1, c2, c3, c4, c5, c6, c7, c12, c13, c14, c15, c16, c17, c18, c19, c20, c21, c22, c23, c24, c25, c26, c27, c28, c29, c30, c31, c32, c33, c34, c35, c36, c37, c38, c39, c40, c41, c42, c43, c44, c45, c46, c47, c48, c49, c50, c51, c52, c53, c54, c55, c56, c57, c58, c59, c60, c61, c62, c63, c64, c65, c66, c67]) := pxK <| pxS <| pxS <| pxS <| pxS <| pxS <| pxS <| pxS <| pxK <| pxK <| pxK <| pxK <| pxS <| pxS <| pxS <| pxS <| pxS <| pxS <| pxS <| pxS <| pxS <| pxS <| pxS <| pxS <| pxS <| pxS <| pxS <| pxS <| pxS <| pxS <| pxS <| pxS <| pxS <| pxS <| pxS <| pxS <| pxS <| pxS <| pxS <| pxS <| pxS <| pxS <| pxS <| pxS <| pxS <| pxS <| pxS <| pxS <| pxS <| pxS <| pxS <| pxS <| pxS <| pxS <| pxS <| pxS <| pxS <| pxS <| pxS <| pxS <| pxS <| pxS <| pxS <| pxS <| pxS <| pxS <| pxS <| pxS <| pxN
set_option maxRecDepth 100000 in
theorem px_3 {c0 c1 c2 c3 c4 c5 c6 c7 c8 c9 c10 c11 c12 c13 c14 c15 c16 c17 c18 c19 c20 c21 c22 c23 c24 c25 c26 c27 c28 c29 c30 c31 c32 c33 c34 c35 c36 c37 c38 c39 c40 c41 c42 c43 c44 c45 c46 c47 c48 c49 c50 c51 c52 c53 c54 c55 c56 c57 c58 c59 c60 c61 c62 c63 c64 c65 c66 c67 : Nat × va_E} : List.Perm ([c0, c1, c2, c3, c4, c5, c6, c7, c8, c9, c10, c11, c12, c13, c14, c15, c16, c17, c18, c19, c20, c21, c22, c23, c24, c25, c26, c27, c28, c29, c30, c31, c32, c33, c34, c35, c36, c37, c38, c39, c40, c41, c42, c43, c44, c45, c46, c47, c48, c49, c50, c51, c52, c53, c54, c55, c56, c57, c58, c59, c60, c61, c62, c63, c64, c65, c66, c67] : va_W) ([c0, c3, c4, c5, c6, c7, c8, c9, c10, c11, c12] ++ [c1, c2, c13, c14, c15, c16, c17, c18, c19, c20, c21, c22, c23, c24, c25, c26, c27, c28, c29, c30, c31, c32, c33, c34, c35, c36, c37, c38, c39, c40, c41, c42, c43, c44, c45, c46, c47, c48, c49, c50, c51, c52, c53, c54, c55, c56, c57, c58, c59, c60, c61, c62, c63, c64, c65, c66, c67]) := pxK <| pxS <| pxS <| pxK <| pxK <| pxK <| pxK <| pxK <| pxK <| pxK <| pxK <| pxK <| pxK <| pxS <| pxS <| pxS <| pxS <| pxS <| pxS <| pxS <| pxS <| pxS <| pxS <| pxS <| pxS <| pxS <| pxS <| pxS <| pxS <| pxS <| pxS <| pxS <| pxS <| pxS <| pxS <| pxS <| pxS <| pxS <| pxS <| pxS <| pxS <| pxS <| pxS <| pxS <| pxS <| pxS <| pxS <| pxS <| pxS <| pxS <| pxS <| pxS <| pxS <| pxS <| pxS <| pxS <| pxS <| pxS <| pxS <| pxS <| pxS <| pxS <| pxS <| pxS <| pxS <| pxS <| pxS <| pxS <| pxN
set_option maxRecDepth 100000 in
theorem px_4 {c0 c1 c2 c3 c4 c5 c6 c7 c8 c9 c10 c11 c12 c13 c14 c15 c16 c17 c18 c19 c20 c21 c22 c23 c24 c25 c26 c27 c28 c29 c30 c31 c32 c33 c34 c35 c36 c37 c38 c39 c40 c41 c42 c43 c44 c45 c46 c47 c48 c49 c50 c51 c52 c53 c54 c55 c56 c57 c58 c59 c60 c61 c62 c63 c64 c65 c66 c67 : Nat × va_E} : List.Perm ([c0, c1, c2, c3, c4, c5, c6, c7, c8, c9, c10, c11, c12, c13, c14, c15, c16, c17, c18, c19, c20, c21, c22, c23, c24, c25, c26, c27, c28, c29, c30, c31, c32, c33, c34, c35, c36, c37, c38, c39, c40, c41, c42, c43, c44, c45, c46, c47, c48, c49, c50, c51, c52, c53, c54, c55, c56, c57, c58, c59, c60, c61, c62, c63, c64, c65, c66, c67] : va_W) ([c0, c13, c14, c15, c16, c17] ++ [c1, c2, c3, c4, c5, c6, c7, c8, c9, c10, c11, c12, c18, c19, c20, c21, c22, c23, c24, c25, c26, c27, c28, c29, c30, c31, c32, c33, c34, c35, c36, c37, c38, c39, c40, c41, c42, c43, c44, c45, c46, c47, c48, c49, c50, c51, c52, c53, c54, c55, c56, c57, c58, c59, c60, c61, c62, c63, c64, c65, c66, c67]) := pxK <| pxS <| pxS <| pxS <| pxS <| pxS <| pxS <| pxS <| pxS <| pxS <| pxS <| pxS <| pxS <| pxK <| pxK <| pxK <| pxK <| pxK <| pxS <| pxS <| pxS <| pxS <| pxS <| pxS <| pxS <| pxS <| pxS <| pxS <| pxS <| pxS <| pxS <| pxS <| pxS <| pxS <| pxS <| pxS <| pxS <| pxS <| pxS <| pxS <| pxS <| pxS <| pxS <| pxS <| pxS <| pxS <| pxS <| pxS <| pxS <| pxS <| pxS <| pxS <| pxS <| pxS <| pxS <| pxS <| pxS <| pxS <| pxS <| pxS <| pxS <| pxS <| pxS <| pxS <| pxS <| pxS <| pxS <| pxS <| pxN
set_option maxRecDepth 100000 in
theorem px_5 {c0 c1 c2 c3 c4 c5 c6 c7 c8 c9 c10 c11 c12 c13 c14 c15 c16 c17 c18 c19 c20 c21 c22 c23 c24 c25 c26 c27 c28 c29 c30 c31 c32 c33 c34 c35 c36 c37 c38 c39 c40 c41 c42 c43 c44 c45 c46 c47 c48 c49 c50 c51 c52 c53 c54 c55 c56 c57 c58 c59 c60 c61 c62 c63 c64 c65 c66 c67 : Nat × va_E} : List.Perm ([c0, c1, c2, c3, c4, c5, c6, c7, c8, c9, c10, c11, c12, c13, c14, c15, c16, c17, c18, c19, c20, c21, c22, c23, c24, c25, c26, c27, c28, c29, c30, c31, c32, c33, c34, c35, c36, c37, c38, c39, c40, c41, c42, c43, c44, c45, c46, c47, c48, c49, c50, c51, c52, c53, c54, c55, c56, c57, c58, c59, c60, c61, c62, c63, c64, c65, c66, c67] : va_W) ([c0, c18] ++ [c1, c2, c3, c4, c5, c6, c7, c8, c9, c10, c11, c12, c13, c14, c15, c16, c17, c19, c20, c21, c22, c23, c24, c25, c26, c27, c28, c29, c30, c31, c32, c33, c34, c35, c36, c37, c38, c39, c40, c41, c42, c43, c44, c45, c46, c47, c48, c49, c50, c51, c52, c53, c54, c55, c56, c57, c58, c59, c60, c61, c62, c63, c64, c65, c66, c67]) := pxK <| pxS <| pxS <| pxS <| pxS <| pxS <| pxS <| pxS <| pxS <| pxS <| pxS <| pxS <| pxS <| pxS <| pxS <| pxS <| pxS <| pxS <| pxK <| pxS <| pxS <| pxS <| pxS <| pxS <| pxS <| pxS <| pxS <| pxS <| pxS <| pxS <| pxS <| pxS <| pxS <| pxS <| pxS <| pxS <| pxS <| pxS <| pxS <| pxS <| pxS <| pxS <| pxS <| pxS <| pxS <| pxS <| pxS <| pxS <| pxS <| pxS <| pxS <| pxS <| pxS <| pxS <| pxS <| pxS <| pxS <| pxS <| pxS <| pxS <| pxS <| pxS <| pxS <| pxS <| pxS <| pxS <| pxS <| pxS <| pxN
set_option maxRecDepth 100000 in
theorem px_6 {c0 c1 c2 c3 c4 c5 c6 c7 c8 c9 c10 c11 c12 c13 c14 c15 c16 c17 c18 c19 c20 c21 c22 c23 c24 c25 c26 c27 c28 c29 c30 c31 c32 c33 c34 c35 c36 c37 c38 c39 c40 c41 c42 c43 c44 c45 c46 c47 c48 c49 c50 c51 c52 c53 c54 c55 c56 c57 c58 c59 c60 c61 c62 c63 c64 c65 c66 c67 : Nat × va_E} : List.Perm ([c0, c1, c2, c3, c4, c5, c6, c7, c8, c9, c10, c11, c12, c13, c14, c15, c16, c17, c18, c19, c20, c21, c22, c23, c24, c25, c26, c27, c28, c29, c30, c31, c32, c33, c34, c35, c36, c37, c38, c39, c40, c41, c42, c43, c44, c45, c46, c47, c48, c49, c50, c51, c52, c53, c54, c55, c56, c57, c58, c59, c60, c61, c62, c63, c64, c65, c66, c67] : va_W) ([c0] ++ [c1, c2, c3, c4, c5, c6, c7, c8, c9, c10, c11, c12, c13, c14, c15, c16, c17, c18, c19, c20, c21, c22, c23, c24, c25, c26, c27, c28, c29, c30, c31, c32, c33, c34, c35, c36, c37, c38, c39, c40, c41, c42, c43, c44, c45, c46, c47, c48, c49, c50, c51, c52, c53, c54, c55, c56, c57, c58, c59, c60, c61, c62, c63, c64, c65, c66, c67]) := pxK <| pxS <| pxS <| pxS <| pxS <| pxS <| pxS <| pxS <| pxS <| pxS <| pxS <| pxS <| pxS <| pxS <| pxS <| pxS <| pxS <| pxS <| pxS <| pxS <| pxS <| pxS <| pxS <| pxS <| pxS <| pxS <| pxS <| pxS <| pxS <| pxS <| pxS <| pxS <| pxS <| pxS <| pxS <| pxS <| pxS <| pxS <| pxS <| pxS <| pxS <| pxS <| pxS <| pxS <| pxS <| pxS <| pxS <| pxS <| pxS <| pxS <| pxS <| pxS <| pxS <| pxS <| pxS <| pxS <| pxS <| pxS <| pxS <| pxS <| pxS <| pxS <| pxS <| pxS <| pxS <| pxS <| pxS <| pxS <| pxN
set_option maxRecDepth 100000 in
theorem px_7 {c0 c1 c2 c3 c4 c5 c6 c7 c8 c9 c10 c11 c12 c13 c14 c15 c16 c17 c18 c19 c20 c21 c22 c23 c24 c25 c26 c27 c28 c29 c30 c31 c32 c33 c34 c35 c36 c37 c38 c39 c40 c41 c42 c43 c44 c45 c46 c47 c48 c49 c50 c51 c52 c53 c54 c55 c56 c57 c58 c59 c60 c61 c62 c63 c64 c65 c66 c67 : Nat × va_E} : List.Perm ([c0, c1, c2, c3, c4, c5, c6, c7, c8, c9, c10, c11, c12, c13, c14, c15, c16, c17, c18, c19, c20, c21, c22, c23, c24, c25, c26, c27, c28, c29, c30, c31, c32, c33, c34, c35, c36, c37, c38, c39, c40, c41, c42, c43, c44, c45, c46, c47, c48, c49, c50, c51, c52, c53, c54, c55, c56, c57, c58, c59, c60, c61, c62, c63, c64, c65, c66, c67] : va_W) ([c0, c3, c4, c5, c6, c7, c8, c9, c10, c11, c12, c13, c14, c15, c16, c17, c18] ++ [c1, c2, c19, c20, c21, c22, c23, c24, c25, c26, c27, c28, c29, c30, c31, c32, c33, c34, c35, c36, c37, c38, c39, c40, c41, c42, c43, c44, c45, c46, c47, c48, c49, c50, c51, c52, c53, c54, c55, c56, c57, c58, c59, c60, c61, c62, c63, c64, c65, c66, c67]) := pxK <| pxS <| pxS <| pxK <| pxK <| pxK <| pxK <| pxK <| pxK <| pxK <| pxK <| pxK <| pxK <| pxK <| pxK <| pxK <| pxK <| pxK <| pxK <| pxS <| pxS <| pxS <| pxS <| pxS <| pxS <| pxS <| pxS <| pxS <| pxS <| pxS <| pxS <| pxS <| pxS <| pxS <| pxS <| pxS <| pxS <| pxS <| pxS <| pxS <| pxS <| pxS <| pxS <| pxS <| pxS <| pxS <| pxS <| pxS <| pxS <| pxS <| pxS <| pxS <| pxS <| pxS <| pxS <| pxS <| pxS <| pxS <| pxS <| pxS <| pxS <| pxS <| pxS <| pxS <| pxS <| pxS <| pxS <| pxS <| pxN
set_option maxRecDepth 100000 in
theorem px_8 {c0 c1 c2 c3 c4 c5 c6 c7 c8 c9 c10 c11 c12 c13 c14 c15 c16 c17 c18 c19 c20 c21 c22 c23 c24 c25 c26 c27 c28 c29 c30 c31 c32 c33 c34 c35 c36 c37 c38 c39 c40 c41 c42 c43 c44 c45 c46 c47 c48 c49 c50 c51 c52 c53 c54 c55 c56 c57 c58 c59 c60 c61 c62 c63 c64 c65 c66 c67 : Nat × va_E} : List.Perm ([c0, c1, c2, c3, c4, c5, c6, c7, c8, c9, c10, c11, c12, c13, c14, c15, c16, c17, c18, c19, c20, c21, c22, c23, c24, c25, c26, c27, c28, c29, c30, c31, c32, c33, c34, c35, c36, c37, c38, c39, c40, c41, c42, c43, c44, c45, c46, c47, c48, c49, c50, c51, c52, c53, c54, c55, c56, c57, c58, c59, c60, c61, c62, c63, c64, c65, c66, c67] : va_W) ([c0, c19] ++ [c1, c2, c3, c4, c5, c6, c7, c8, c9, c10, c11, c12, c13, c14, c15, c16, c17, c18, c20, c21, c22, c23, c24, c25, c26, c27, c28, c29, c30, c31, c32, c33, c34, c35, c36, c37, c38, c39, c40, c41, c42, c43, c44, c45, c46, c47, c48, c49, c50, c51, c52, c53, c54, c55, c56, c57, c58, c59, c60, c61, c62, c63, c64, c65, c66, c67]) := pxK <| pxS <| pxS <| pxS <| pxS <| pxS <| pxS <| pxS <| pxS <| pxS <| pxS <| pxS <| pxS <| pxS <| pxS <| pxS <| pxS <| pxS <| pxS <| pxK <| pxS <| pxS <| pxS <| pxS <| pxS <| pxS <| pxS <| pxS <| pxS <| pxS <| pxS <| pxS <| pxS <| pxS <| pxS <| pxS <| pxS <| pxS <| pxS <| pxS <| pxS <| pxS <| pxS <| pxS <| pxS <| pxS <| pxS <| pxS <| pxS <| pxS <| pxS <| pxS <| pxS <| pxS <| pxS <| pxS <| pxS <| pxS <| pxS <| pxS <| pxS <| pxS <| pxS <| pxS <| pxS <| pxS <| pxS <| pxS <| pxN
set_option maxRecDepth 100000 in
theorem px_9 {c0 c1 c2 c3 c4 c5 c6 c7 c8 c9 c10 c11 c12 c13 c14 c15 c16 c17 c18 c19 c20 c21 c22 c23 c24 c25 c26 c27 c28 c29 c30 c31 c32 c33 c34 c35 c36 c37 c38 c39 c40 c41 c42 c43 c44 c45 c46 c47 c48 c49 c50 c51 c52 c53 c54 c55 c56 c57 c58 c59 c60 c61 c62 c63 c64 c65 c66 c67 : Nat × va_E} : List.Perm ([c0, c1, c2, c3, c4, c5, c6, c7, c8, c9, c10, c11, c12, c13, c14, c15, c16, c17, c18, c19, c20, c21, c22, c23, c24, c25, c26, c27, c28, c29, c30, c31, c32, c33, c34, c35, c36, c37, c38, c39, c40, c41, c42, c43, c44, c45, c46, c47, c48, c49, c50, c51, c52, c53, c54, c55, c56, c57, c58, c59, c60, c61, c62, c63, c64, c65, c66, c67] : va_W) ([c0, c3, c4, c5, c6, c7, c8, c9, c10, c11, c12, c13, c14, c15, c16, c17, c18, c19, c20, c21, c22, c23, c24] ++ [c1, c2, c25, c26, c27, c28, c29, c30, c31, c32, c33, c34, c35, c36, c37, c38, c39, c40, c41, c42, c43, c44, c45, c46, c47, c48, c49, c50, c51, c52, c53, c54, c55, c56, c57, c58, c59, c60, c61, c62, c63, c64, c65, c66, c67]) := pxK <| pxS <| pxS <| pxK <| pxK <| pxK <| pxK <| pxK <| pxK <| pxK <| pxK <| pxK <| pxK <| pxK <| pxK <| pxK <| pxK <| pxK <| pxK <| pxK <| pxK <| pxK <| pxK <| pxK <| pxK <| pxS <| pxS <| pxS <| pxS <| pxS <| pxS <| pxS <| pxS <| pxS <| pxS <| pxS <| pxS <| pxS <| pxS <| pxS <| pxS <| pxS <| pxS <| pxS <| pxS <| pxS <| pxS <| pxS <| pxS <| pxS <| pxS <| pxS <| pxS <| pxS <| pxS <| pxS <| pxS <| pxS <| pxS <| pxS <| pxS <| pxS <| pxS <| pxS <| pxS <| pxS <| pxS <| pxS <| pxN
set_option maxRecDepth 100000 in
theorem px_10 {c0 c1 c2 c3 c4 c5 c6 c7 c8 c9 c10 c11 c12 c13 c14 c15 c16 c17 c18 c19 c20 c21 c22 c23 c24 c25 c26 c27 c28 c29 c30 c31 c32 c33 c34 c35 c36 c37 c38 c39 c40 c41 c42 c43 c44 c45 c46 c47 c48 c49 c50 c51 c52 c53 c54 c55 c56 c57 c58 c59 c60 c61 c62 c63 c64 c65 c66 c67 : Nat × va_E} : List.Perm ([c0, c1, c2, c3, c4, c5, c6, c7, c8, c9, c10, c11, c12, c13, c14, c15, c16, c17, c18, c19, c20, c21, c22, c23, c24, c25, c26, c27, c28, c29, c30, c31, c32, c33, c34, c35, c36, c37, c38, c39, c40, c41, c42, c43, c44, c45, c46, c47, c48, c49, c50, c51, c52, c53, c54, c55, c56, c57, c58, c59, c60, c61, c62, c63, c64, c65, c66, c67] : va_W) ([c0, c21, c22, c23, c24] ++ [c1, c2, c3, c4, c5, c6, c7, c8, c9, c10, c11, c12, c13, c14, c15, c16, c17, c18, c19, c20, c25, c26, c27, c28, c29, c30, c31, c32, c33, c34, c35, c36, c37, c38, c39, c40, c41, c42, c43, c44, c45, c46, c47, c48, c49, c50, c51, c52, c53, c54, c55, c56, c57, c58, c59, c60, c61, c62, c63, c64, c65, c66, c67]) := pxK <| pxS <| pxS <| pxS <| pxS <| pxS <| pxS <| pxS <| pxS <| pxS <| pxS <| pxS <| pxS <| pxS <| pxS <| pxS <| pxS <| pxS <| pxS <| pxS <| pxS <| pxK <| pxK <| pxK <| pxK <| pxS <| pxS <| pxS <| pxS <| pxS <| pxS <| pxS <| pxS <| pxS <| pxS <| pxS <| pxS <| pxS <| pxS <| pxS <| pxS <| pxS <| pxS <| pxS <| pxS <| pxS <| pxS <| pxS <| pxS <| pxS <| pxS <| pxS <| pxS <| pxS <| pxS <| pxS <| pxS <| pxS <| pxS <| pxS <| pxS <| pxS <| pxS <| pxS <| pxS <| pxS <| pxS <| pxS <| pxN
set_option maxRecDepth 100000 in
theorem px_11 {c0 c1 c2 c3 c4 c5 c6 c7 c8 c9 c10 c11 c12 c13 c14 c15 c16 c17 c18 c19 c20 c21 c22 c23 c24 c25 c26 c27 c28 c29 c30 c31 c32 c33 c34 c35 c36 c37 c38 c39 c40 c41 c42 c43 c44 c45 c46 c47 c48 c49 c50 c51 c52 c53 c54 c55 c56 c57 c58 c59 c60 c61 c62 c63 c64 c65 c66 c67 : Nat × va_E} : List.Perm ([c0, c1, c2, c3, c4, c5, c6, c7, c8, c9, c10, c11, c12, c13, c14, c15, c16, c17, c18, c19, c20, c21, c22, c23, c24, c25, c26, c27, c28, c29, c30, c31, c32, c33, c34, c35, c36, c37, c38, c39, c40, c41, c42, c43, c44, c45, c46, c47, c48, c49, c50, c51, c52, c53, c54, c55, c56, c57, c58, c59, c60, c61, c62, c63, c64, c65, c66, c67] : va_W) ([c0, c25, c26, c27, c28, c29, c30, c31, c32, c33, c34, c35, c36] ++ [c1, c2, c3, c4, c5, c6, c7, c8, c9, c10, c11, c12, c13, c14, c15, c16, c17, c18, c19, c20, c21, c22, c23, c24, c37, c38, c39, c40, c41, c42, c43, c44, c45, c46, c47, c48, c49, c50, c51, c52, c53, c54, c55, c56, c57, c58, c59, c60, c61, c62, c63, c64, c65, c66, c67]) := pxK <| pxS <| pxS <| pxS <| pxS <| pxS <| pxS <| pxS <| pxS <| pxS <| pxS <| pxS <| pxS <| pxS <| pxS <| pxS <| pxS <| pxS <| pxS <| pxS <| pxS <| pxS <| pxS <| pxS <| pxS <| pxK <| pxK <| pxK <| pxK <| pxK <| pxK <| pxK <| pxK <| pxK <| pxK <| pxK <| pxK <| pxS <| pxS <| pxS <| pxS <| pxS <| pxS <| pxS <| pxS <| pxS <| pxS <| pxS <| pxS <| pxS <| pxS <| pxS <| pxS <| pxS <| pxS <| pxS <| pxS <| pxS <| pxS <| pxS <| pxS <| pxS <| pxS <| pxS <| pxS <| pxS <| pxS <| pxS <| pxN
set_option maxRecDepth 100000 in
theorem px_12 {c0 c1 c2 c3 c4 c5 c6 c7 c8 c9 c10 c11 c12 c13 c14 c15 c16 c17 c18 c19 c20 c21 c22 c23 c24 c25 c26 c27 c28 c29 c30 c31 c32 c33 c34 c35 c36 c37 c38 c39 c40 c41 c42 c43 c44 c45 c46 c47 c48 c49 c50 c51 c52 c53 c54 c55 c56 c57 c58 c59 c60 c61 c62 c63 c64 c65 c66 c67 : Nat × va_E} : List.Perm ([c0, c1, c2, c3, c4, c5, c6, c7, c8, c9, c10, c11, c12, c13, c14, c15, c16, c17, c18, c19, c20, c21, c22, c23, c24, c25, c26, c27, c28, c29, c30, c31, c32, c33, c34, c35, c36, c37, c38, c39, c40, c41, c42, c43, c44, c45, c46, c47, c48, c49, c50, c51, c52, c53, c54, c55, c56, c57, c58, c59, c60, c61, c62, c63, c64, c65, c66, c67] : va_W) ([c0, c37] ++ [c1, c2, c3, c4, c5, c6, c7, c8, c9, c10, c11, c12, c13, c14, c15, c16, c17, c18, c19, c20, c21, c22, c23, c24, c25, c26, c27, c28, c29, c30, c31, c32, c33, c34, c35, c36, c38, c39, c40, c41, c42, c43, c44, c45, c46, c47, c48, c49, c50, c51, c52, c53, c54, c55, c56, c57, c58, c59, c60, c61, c62, c63, c64, c65, c66, c67]) := pxK <| pxS <| pxS <| pxS <| pxS <| pxS <| pxS <| pxS <| pxS <| pxS <| pxS <| pxS <| pxS <| pxS <| pxS <| pxS <| pxS <| pxS <| pxS <| pxS <| pxS <| pxS <| pxS <| pxS <| pxS <| pxS <| pxS <| pxS <| pxS <| pxS <| pxS <| pxS <| pxS <| pxS <| pxS <| pxS <| pxS <| pxK <| pxS <| pxS <| pxS <| pxS <| pxS <| pxS <| pxS <| pxS <| pxS <| pxS <| pxS <| pxS <| pxS <| pxS <| pxS <| pxS <| pxS <| pxS <| pxS <| pxS <| pxS <| pxS <| pxS <| pxS <| pxS <| pxS <| pxS <| pxS <| pxS <| pxS <| pxN
set_option maxRecDepth 100000 in
theorem px_13 {c0 c1 c2 c3 c4 c5 c6 c7 c8 c9 c10 c11 c12 c13 c14 c15 c16 c17 c18 c19 c20 c21 c22 c23 c24 c25 c26 c27 c28 c29 c30 c31 c32 c33 c34 c35 c36 c37 c38 c39 c40 c41 c42 c43 c44 c45 c46 c47 c48 c49 c50 c51 c52 c53 c54 c55 c56 c57 c58 c59 c60 c61 c62 c63 c64 c65 c66 c67 : Nat × va_E} : List.Perm ([c0, c1, c2, c3, c4, c5, c6, c7, c8, c9, c10, c11, c12, c13, c14, c15, c16, c17, c18, c19, c20, c21, c22, c23, c24, c25, c26, c27, c28, c29, c30, c31, c32, c33, c34, c35, c36, c37, c38, c39, c40, c41, c42, c43, c44, c45, c46, c47, c48, c49, c50, c51, c52, c53, c54, c55, c56, c57, c58, c59, c60, c61, c62, c63, c64, c65, c66, c67] : va_W) ([c0, c1, c2, c8, c9, c10, c11, c21, c22, c23, c24, c25, c26, c27, c28, c29, c30, c31, c32, c33, c34, c35, c36, c37] ++ [c3, c4, c5, c6, c7, c12, c13, c14, c15, c16, c17, c18, c19, c20, c38, c39, c40, c41, c42, c43, c44, c45, c46, c47, c48, c49, c50, c51, c52, c53, c54, c55, c56, c57, c58, c59, c60, c61, c62, c63, c64, c65, c66, c67]) := pxK <| pxK <| pxK <| pxS <| pxS <| pxS <| pxS <| pxS <| pxK <| pxK <| pxK <| pxK <| pxS <| pxS <| pxS <| pxS <| pxS <| pxS <| pxS <| pxS <| pxS <| pxK <| pxK <| pxK <| pxK <| pxK <| pxK <| pxK <| pxK <| pxK <| pxK <| pxK <| pxK <| pxK <| pxK <| pxK <| pxK <| pxK <| pxS <| pxS <| pxS <| pxS <| pxS <| pxS <| pxS <| pxS <| pxS <| pxS <| pxS <| pxS <| pxS <| pxS <| pxS <| pxS <| pxS <| pxS <| pxS <| pxS <| pxS <| pxS <| pxS <| pxS <| pxS <| pxS <| pxS <| pxS <| pxS <| pxS <| pxN
set_option maxRecDepth 100000 in
theorem px_14 {c0 c1 c2 c3 c4 c5 c6 c7 c8 c9 c10 c11 c12 c13 c14 c15 c16 c17 c18 c19 c20 c21 c22 c23 c24 c25 c26 c27 c28 c29 c30 c31 c32 c33 c34 c35 c36 c37 c38 c39 c40 c41 c42 c43 c44 c45 c46 c47 c48 c49 c50 c51 c52 c53 c54 c55 c56 c57 c58 c59 c60 c61 c62 c63 c64 c65 c66 c67 : Nat × va_E} : List.Perm ([c0, c1, c2, c3, c4, c5, c6, c7, c8, c9, c10, c11, c12, c13, c14, c15, c16, c17, c18, c19, c20, c21, c22, c23, c24, c25, c26, c27, c28, c29, c30, c31, c32, c33, c34, c35, c36, c37, c38, c39, c40, c41, c42, c43, c44, c45, c46, c47, c48, c49, c50, c51, c52, c53, c54, c55, c56, c57, c58, c59, c60, c61, c62, c63, c64, c65, c66, c67] : va_W) ([c0, c3, c4, c5, c6, c7, c8, c9, c10, c11, c12, c67] ++ [c1, c2, c13, c14, c15, c16, c17, c18, c19, c20, c21, c22, c23, c24, c25, c26, c27, c28, c29, c30, c31, c32, c33, c34, c35, c36, c37, c38, c39, c40, c41, c42, c43, c44, c45, c46, c47, c48, c49, c50, c51, c52, c53, c54, c55, c56, c57, c58, c59, c60, c61, c62, c63, c64, c65, c66]) := pxK <| pxS <| pxS <| pxK <| pxK <| pxK <| pxK <| pxK <| pxK <| pxK <| pxK <| pxK <| pxK <| pxS <| pxS <| pxS <| pxS <| pxS <| pxS <| pxS <| pxS <| pxS <| pxS <| pxS <| pxS <| pxS <| pxS <| pxS <| pxS <| pxS <| pxS <| pxS <| pxS <| pxS <| pxS <| pxS <| pxS <| pxS <| pxS <| pxS <| pxS <| pxS <| pxS <| pxS <| pxS <| pxS <| pxS <| pxS <| pxS <| pxS <| pxS <| pxS <| pxS <| pxS <| pxS <| pxS <| pxS <| pxS <| pxS <| pxS <| pxS <| pxS <| pxS <| pxS <| pxS <| pxS <| pxS <| pxK <| pxN
set_option maxRecDepth 100000 in
theorem px_15 {c0 c1 c2 c3 c4 c5 c6 c7 c8 c9 c10 c11 c12 c13 c14 c15 c16 c17 c18 c19 c20 c21 c22 c23 c24 c25 c26 c27 c28 c29 c30 c31 c32 c33 c34 c35 c36 c37 c38 c39 c40 c41 c42 c43 c44 c45 c46 c47 c48 c49 c50 c51 c52 c53 c54 c55 c56 c57 c58 c59 c60 c61 c62 c63 c64 c65 c66 c67 : Nat × va_E} : List.Perm ([c0, c1, c2, c3, c4, c5, c6, c7, c8, c9, c10, c11, c12, c13, c14, c15, c16, c17, c18, c19, c20, c21, c22, c23, c24, c25, c26, c27, c28, c29, c30, c31, c32, c33, c34, c35, c36, c37, c38, c39, c40, c41, c42, c43, c44, c45, c46, c47, c48, c49, c50, c51, c52, c53, c54, c55, c56, c57, c58, c59, c60, c61, c62, c63, c64, c65, c66, c67] : va_W) ([c0, c8, c9, c10, c11, c67] ++ [c1, c2, c3, c4, c5, c6, c7, c12, c13, c14, c15, c16, c17, c18, c19, c20, c21, c22, c23, c24, c25, c26, c27, c28, c29, c30, c31, c32, c33, c34, c35, c36, c37, c38, c39, c40, c41, c42, c43, c44, c45, c46, c47, c48, c49, c50, c51, c52, c53, c54, c55, c56, c57, c58, c59, c60, c61, c62, c63, c64, c65, c66]) := pxK <| pxS <| pxS <| pxS <| pxS <| pxS <| pxS <| pxS <| pxK <| pxK <| pxK <| pxK <| pxS <| pxS <| pxS <| pxS <| pxS <| pxS <| pxS <| pxS <| pxS <| pxS <| pxS <| pxS <| pxS <| pxS <| pxS <| pxS <| pxS <| pxS <| pxS <| pxS <| pxS <| pxS <| pxS <| pxS <| pxS <| pxS <| pxS <| pxS <| pxS <| pxS <| pxS <| pxS <| pxS <| pxS <| pxS <| pxS <| pxS <| pxS <| pxS <| pxS <| pxS <| pxS <| pxS <| pxS <| pxS <| pxS <| pxS <| pxS <| pxS <| pxS <| pxS <| pxS <| pxS <| pxS <| pxS <| pxK <| pxN
set_option maxRecDepth 100000 in
theorem px_16 {c0 c1 c2 c3 c4 c5 c6 c7 c8 c9 c10 c11 c12 c13 c14 c15 c16 c17 c18 c19 c20 c21 c22 c23 c24 c25 c26 c27 c28 c29 c30 c31 c32 c33 c34 c35 c36 c37 c38 c39 c40 c41 c42 c43 c44 c45 c46 c47 c48 c49 c50 c51 c52 c53 c54 c55 c56 c57 c58 c59 c60 c61 c62 c63 c64 c65 c66 c67 : Nat × va_E} : List.Perm ([c0, c1, c2, c3, c4, c5, c6, c7, c8, c9, c10, c11, c12, c13, c14, c15, c16, c17, c18, c19, c20, c21, c22, c23, c24, c25, c26, c27, c28, c29, c30, c31, c32, c33, c34, c35, c36, c37, c38, c39, c40, c41, c42, c43, c44, c45, c46, c47, c48, c49, c50, c51, c52, c53, c54, c55, c56, c57, c58, c59, c60, c61, c62, c63, c64, c65, c66, c67] : va_W) ([c0, c1, c2, c8, c9, c10, c11] ++ [c3, c4, c5, c6, c7, c12, c13, c14, c15, c16, c17, c18, c19, c20, c21, c22, c23, c24, c25, c26, c27, c28, c29, c30, c31, c32, c33, c34, c35, c36, c37, c38, c39, c40, c41, c42, c43, c44, c45, c46, c47, c48, c49, c50, c51, c52, c53, c54, c55, c56, c57, c58, c59, c60, c61, c62, c63, c64, c65, c66, c67]) := pxK <| pxK <| pxK <| pxS <| pxS <| pxS <| pxS <| pxS <| pxK <| pxK <| pxK <| pxK <| pxS <| pxS <| pxS <| pxS <| pxS <| pxS <| pxS <| pxS <| pxS <| pxS <| pxS <| pxS <| pxS <| pxS <| pxS <| pxS <| pxS <| pxS <| pxS <| pxS <| pxS <| pxS <| pxS <| pxS <| pxS <| pxS <| pxS <| pxS <| pxS <| pxS <| pxS <| pxS <| pxS <| pxS <| pxS <| pxS <| pxS <| pxS <| pxS <| pxS <| pxS <| pxS <| pxS <| pxS <| pxS <| pxS <| pxS <| pxS <| pxS <| pxS <| pxS <| pxS <| pxS <| pxS <| pxS <| pxS <| pxN
set_option maxRecDepth 100000 in
theorem px_17 {c0 c1 c2 c3 c4 c5 c6 c7 c8 c9 c10 c11 c12 c13 c14 c15 c16 c17 c18 c19 c20 c21 c22 c23 c24 c25 c26 c27 c28 c29 c30 c31 c32 c33 c34 c35 c36 c37 c38 c39 c40 c41 c42 c43 c44 c45 c46 c47 c48 c49 c50 c51 c52 c53 c54 c55 c56 c57 c58 c59 c60 c61 c62 c63 c64 c65 c66 c67 : Nat × va_E} : List.Perm ([c0, c1, c2, c3, c4, c5, c6, c7, c8, c9, c10, c11, c12, c13, c14, c15, c16, c17, c18, c19, c20, c21, c22, c23, c24, c25, c26, c27, c28, c29, c30, c31, c32, c33, c34, c35, c36, c37, c38, c39, c40, c41, c42, c43, c44, c45, c46, c47, c48, c49, c50, c51, c52, c53, c54, c55, c56, c57, c58, c59, c60, c61, c62, c63, c64, c65, c66, c67] : va_W) ([c0, c1, c2, c8, c9, c10, c11, c12] ++ [c3, c4, c5, c6, c7, c13, c14, c15, c16, c17, c18, c19, c20, c21, c22, c23, c24, c25, c26, c27, c28, c29, c30, c31, c32, c33, c34, c35, c36, c37, c38, c39, c40, c41, c42, c43, c44, c45, c46, c47, c48, c49, c50, c51, c52, c53, c54, c55, c56, c57, c58, c59, c60, c61, c62, c63, c64, c65, c66, c67]) := pxK <| pxK <| pxK <| pxS <| pxS <| pxS <| pxS <| pxS <| pxK <| pxK <| pxK <| pxK <| pxK <| pxS <| pxS <| pxS <| pxS <| pxS <| pxS <| pxS <| pxS <| pxS <| pxS <| pxS <| pxS <| pxS <| pxS <| pxS <| pxS <| pxS <| pxS <| pxS <| pxS <| pxS <| pxS <| pxS <| pxS <| pxS <| pxS <| pxS <| pxS <| pxS <| pxS <| pxS <| pxS <| pxS <| pxS <| pxS <| pxS <| pxS <| pxS <| pxS <| pxS <| pxS <| pxS <| pxS <| pxS <| pxS <| pxS <| pxS <| pxS <| pxS <| pxS <| pxS <| pxS <| pxS <| pxS <| pxS <| pxN
set_option maxHeartbeats 4000000 in
set_option maxRecDepth 100000 in
theorem lc_feed {p : Program} {l : Launch} {e : Env} {s : State} {m : MethodId} {args : Array Value} {below : List Frame} {meth : Method} {c : Code} {cells slots : Nat} {Q : State → Prop} {G : gG} {A : Nat → Prop} (C : gC p m c cL_law 8 s args wsL_law RL G A) (ad md : Nat → Nat) (ou b Ls : Nat) (xs : Nat → Int32) (hX : va_X b Ls xs s s.heap) (hbl : b < s.heap.size) (hbA : ¬ A b) (hLs : Ls ≤ 3072) (i j : Nat) (hij : i = 6 * j) (hi6 : i + 6 ≤ Ls) (ng : Nat) (nw : Nat) (tn : Nat) (nl : Nat) (ne : Nat) (gn : Nat) (nb : Nat) (ns : Nat) (l1 : Nat) (l2 : Nat) (l3 : Nat) (tf : Nat → Int32) (l0 : Nat → Int32) (lf : Nat → Int32) (lt : Nat → Int32) (en : Nat → Int32) (ef : Nat → Int32) (et : Nat → Int32) (ep : Nat → Int32) (pr : Nat → Int32) (py : Nat → Int32) (ld : Nat → Int32) (ll : Nat → Int32) (lc : Nat → Int32) (bd : Nat → Int32) (bl : Nat → Int32) (sd : Nat → Int32) (sl : Nat → Int32) (ag : Nat → Int32) (z : RS) (la : Nat → Nat) (tk : Nat → Nat) (tz : Nat → Nat) (lo : Nat → Nat) (wt : Nat → Nat) (tv : Nat → Nat → Int32) (D : Nat → Nat → Int32) (gc : Int32) (td : Int32) (tl : Int32) (fd : Int32) (st : Int32) (ca : Int32) (cs : Int32) (cb : Int32) (cd : Int32) (so : Nat → Option Nat) (bo : Nat → Option Nat) (rf : Nat → Option Nat) (of : Nat → Int64) (I : Nat → Int32) (F : Nat → Nat → Int32) (rw : Nat) (gd : Int64) (gl : Int64) (L : Nat → Nat) (hm : hmR tn tf nl l0 lf lt tz tv ne en ef et ep ng D pr gn gc ld ll lc nw nb ns bd bl sd sl td tl fd st so ca cs cb cd I F L) (hcb : cells ≤ 200 + 10 * j + ltC gn) (hsb : slots ≤ 100000 + 300 * j + ltS gn)  (kx : ∀ (W9 : va_W) (cells slots : Nat) (H : Heap) (locs : List Loc) (ls : Array Slot), lwI G ad md ou (j + 1) W9 cells slots → gS G A s W9 H locs → lv_has ls 8 [(0, .ref b), (1, .ref (ad 0)), (2, .ref (md 0)), (3, .ref ou), (4, .int (nI i))] → W p l e room_1 s m args below meth c H locs cells slots Q (F0 m 1074 ls [])) (H : Heap) (locs : List Loc) (ls : Array Slot) (h : gS G A s (lW G ad md ou ng nw tn nl ne gn nb ns l1 l2 l3 tf l0 lf lt en ef et ep pr py ld ll lc bd bl sd sl ag z la tk tz lo wt tv D gc td tl fd st ca cs cb cd so bo rf of I F rw gd gl) H locs) (hl : lv_has ls 8 [(0, .ref b), (1, .ref (ad 0)), (2, .ref (md 0)), (3, .ref ou), (4, .int (nI i))]) : W p l e room_1 s m args below meth c H locs cells slots Q (F0 m 156 ls []) := by
  have hx := C.1.1.1
  have hb := C.1.1.2.1
  have hlt := lt_b gn
  have hm9 := hm
  obtain ⟨hT, hL, hE, hG, hP, hD, hN, hB, hC⟩ := hm9
  refine lv_aload_n hx hb dL_law_156 rfl (lv_at hl 1 rfl) ?_
  refine lv_aload_n hx hb dL_law_157 rfl (lv_at hl 0 rfl) ?_
  refine lv_iload hx hb dL_law_158 (lv_at hl 4 rfl) ?_
  refine lv_iconst (v := 1) hx hb dL_law_160 (by decide) ?_
  refine lv_iadd hx hb dL_law_161 ?_
  refine lv_cgi (y := nI (i + 1)) (ni_k i 1) ?_
  refine va_sld hx hb hX hbl hbA h.2.2 (i := (nI (i + 1))) (vp_in_nI (by omega) (by omega)) dL_law_162 ?_
  refine lv_cgi (y := xs (i + 1)) (nn_at xs (by omega)) ?_
  refine lv_aload_n hx hb dL_law_163 rfl (lv_at hl 0 rfl) ?_
  refine lv_iload hx hb dL_law_164 (lv_at hl 4 rfl) ?_
  refine lv_iconst (v := 2) hx hb dL_law_166 (by decide) ?_
  refine lv_iadd hx hb dL_law_167 ?_
  refine lv_cgi (y := nI (i + 2)) (ni_k i 2) ?_
  refine va_sld hx hb hX hbl hbA h.2.2 (i := (nI (i + 2))) (vp_in_nI (by omega) (by omega)) dL_law_168 ?_
  refine lv_cgi (y := xs (i + 2)) (nn_at xs (by omega)) ?_
  refine lv_aload_n hx hb dL_law_169 rfl (lv_at hl 0 rfl) ?_
  refine lv_iload hx hb dL_law_170 (lv_at hl 4 rfl) ?_
  refine lv_iconst (v := 3) hx hb dL_law_172 (by decide) ?_
  refine lv_iadd hx hb dL_law_173 ?_
  refine lv_cgi (y := nI (i + 3)) (ni_k i 3) ?_
  refine va_sld hx hb hX hbl hbA h.2.2 (i := (nI (i + 3))) (vp_in_nI (by omega) (by omega)) dL_law_174 ?_
  refine lv_cgi (y := xs (i + 3)) (nn_at xs (by omega)) ?_
  refine lv_aload_n hx hb dL_law_175 rfl (lv_at hl 0 rfl) ?_
  refine lv_iload hx hb dL_law_176 (lv_at hl 4 rfl) ?_
  refine lv_iconst (v := 4) hx hb dL_law_178 (by decide) ?_
  refine lv_iadd hx hb dL_law_179 ?_
  refine lv_cgi (y := nI (i + 4)) (ni_k i 4) ?_
  refine va_sld hx hb hX hbl hbA h.2.2 (i := (nI (i + 4))) (vp_in_nI (by omega) (by omega)) dL_law_180 ?_
  refine lv_cgi (y := xs (i + 4)) (nn_at xs (by omega)) ?_
  refine lv_aload_n hx hb dL_law_181 rfl (lv_at hl 0 rfl) ?_
  refine lv_iload hx hb dL_law_182 (lv_at hl 4 rfl) ?_
  refine lv_iconst (v := 5) hx hb dL_law_184 (by decide) ?_
  refine lv_iadd hx hb dL_law_185 ?_
  refine lv_cgi (y := nI (i + 5)) (ni_k i 5) ?_
  refine va_sld hx hb hX hbl hbA h.2.2 (i := (nI (i + 5))) (vp_in_nI (by omega) (by omega)) dL_law_186 ?_
  refine lv_cgi (y := xs (i + 5)) (nn_at xs (by omega)) ?_
  have hp := (pmD px_0 : List.Perm (lW G ad md ou ng nw tn nl ne gn nb ns l1 l2 l3 tf l0 lf lt en ef et ep pr py ld ll lc bd bl sd sl ag z la tk tz lo wt tv D gc td tl fd st ca cs cb cd so bo rf of I F rw gd gl : va_W) _)
  refine k_i C h hp (r_runV C h hp 0 rfl rfl (As := [.int (xs (i + 1)), .int (xs (i + 2)), .int (xs (i + 3)), .int (xs (i + 4)), .int (xs (i + 5))]) (rest := []) (h_feed l G ad ng nw tn tf (xs (i + 1)) (xs (i + 2)) (xs (i + 3)) (xs (i + 4)) (xs (i + 5)) hT.1) (cwV 5 C.1.1.2.2.2.2 gL_law_X9_feed rfl rfl rfl (by decide +kernel) ⟨Nat.le_of_ble_eq_true rfl, Nat.le_of_ble_eq_true rfl⟩) rfl hl.1 (Nat.le_of_ble_eq_true rfl) dL_law_187 ⟨by show _ ≤ 601024; omega, by show _ ≤ 7293033; omega⟩) (fun ra ua H locs hwa h => ?_)
  have h : gS G A s (lW G ad md ou ng nw ua.2 nl ne gn nb ns l1 l2 l3 ua.1 l0 lf lt en ef et ep pr py ld ll lc bd bl sd sl ag z la tk tz lo wt tv D gc td tl fd st ca cs cb cd so bo rf of I F rw gd gl) H locs := gS.perm h (List.Perm.symm (pmD px_0))
  refine lv_aload_n hx hb dL_law_190 rfl (lv_at hl 2 rfl) ?_
  refine lv_aload_n hx hb dL_law_191 rfl (lv_at hl 0 rfl) ?_
  refine lv_iload hx hb dL_law_192 (lv_at hl 4 rfl) ?_
  refine lv_iconst (v := 1) hx hb dL_law_194 (by decide) ?_
  refine lv_iadd hx hb dL_law_195 ?_
  refine lv_cgi (y := nI (i + 1)) (ni_k i 1) ?_
  refine va_sld hx hb hX hbl hbA h.2.2 (i := (nI (i + 1))) (vp_in_nI (by omega) (by omega)) dL_law_196 ?_
  refine lv_cgi (y := xs (i + 1)) (nn_at xs (by omega)) ?_
  refine lv_aload_n hx hb dL_law_197 rfl (lv_at hl 0 rfl) ?_
  refine lv_iload hx hb dL_law_198 (lv_at hl 4 rfl) ?_
  refine lv_iconst (v := 2) hx hb dL_law_200 (by decide) ?_
  refine lv_iadd hx hb dL_law_201 ?_
  refine lv_cgi (y := nI (i + 2)) (ni_k i 2) ?_
  refine va_sld hx hb hX hbl hbA h.2.2 (i := (nI (i + 2))) (vp_in_nI (by omega) (by omega)) dL_law_202 ?_
  refine lv_cgi (y := xs (i + 2)) (nn_at xs (by omega)) ?_
  refine lv_aload_n hx hb dL_law_203 rfl (lv_at hl 0 rfl) ?_
  refine lv_iload hx hb dL_law_204 (lv_at hl 4 rfl) ?_
  refine lv_iconst (v := 3) hx hb dL_law_206 (by decide) ?_
  refine lv_iadd hx hb dL_law_207 ?_
  refine lv_cgi (y := nI (i + 3)) (ni_k i 3) ?_
  refine va_sld hx hb hX hbl hbA h.2.2 (i := (nI (i + 3))) (vp_in_nI (by omega) (by omega)) dL_law_208 ?_
  refine lv_cgi (y := xs (i + 3)) (nn_at xs (by omega)) ?_
  refine lv_aload_n hx hb dL_law_209 rfl (lv_at hl 0 rfl) ?_
  refine lv_iload hx hb dL_law_210 (lv_at hl 4 rfl) ?_
  refine lv_iconst (v := 4) hx hb dL_law_212 (by decide) ?_
  refine lv_iadd hx hb dL_law_213 ?_
  refine lv_cgi (y := nI (i + 4)) (ni_k i 4) ?_
  refine va_sld hx hb hX hbl hbA h.2.2 (i := (nI (i + 4))) (vp_in_nI (by omega) (by omega)) dL_law_214 ?_
  refine lv_cgi (y := xs (i + 4)) (nn_at xs (by omega)) ?_
  refine lv_aload_n hx hb dL_law_215 rfl (lv_at hl 0 rfl) ?_
  refine lv_iload hx hb dL_law_216 (lv_at hl 4 rfl) ?_
  refine lv_iconst (v := 5) hx hb dL_law_218 (by decide) ?_
  refine lv_iadd hx hb dL_law_219 ?_
  refine lv_cgi (y := nI (i + 5)) (ni_k i 5) ?_
  refine va_sld hx hb hX hbl hbA h.2.2 (i := (nI (i + 5))) (vp_in_nI (by omega) (by omega)) dL_law_220 ?_
  refine lv_cgi (y := xs (i + 5)) (nn_at xs (by omega)) ?_
  have hp := (pmD px_1 : List.Perm (lW G ad md ou ng nw ua.2 nl ne gn nb ns l1 l2 l3 ua.1 l0 lf lt en ef et ep pr py ld ll lc bd bl sd sl ag z la tk tz lo wt tv D gc td tl fd st ca cs cb cd so bo rf of I F rw gd gl : va_W) _)
  refine k_i C h hp (r_runV C h hp 0 rfl rfl (As := [.int (xs (i + 1)), .int (xs (i + 2)), .int (xs (i + 3)), .int (xs (i + 4)), .int (xs (i + 5))]) (rest := [.int ra]) (m_feedF l G md I F rw gd gl tn (xs (i + 1)) (xs (i + 2)) (xs (i + 3)) (xs (i + 4)) (xs (i + 5)) hT.1 hT.2.1) (cwV 5 C.1.1.2.2.2.2 gL_law_X10_feed rfl rfl rfl (by decide +kernel) ⟨Nat.le_of_ble_eq_true rfl, Nat.le_of_ble_eq_true rfl⟩) rfl hl.1 (Nat.le_of_ble_eq_true rfl) dL_law_221 ⟨by show _ ≤ 601024; omega, by show _ ≤ 7293033; omega⟩) (fun rb ub H locs hwb h => ?_)
  have h : gS G A s (lW G ad md ou ng nw ua.2 nl ne gn nb ns l1 l2 l3 ua.1 l0 lf lt en ef et ep pr py ld ll lc bd bl sd sl ag z la tk tz lo wt tv D gc td tl fd st ca cs cb cd so bo rf of (upd (upd I 23 (nI ub.2)) 0 0) (va_up F 1 ub.1) rw gd gl) H locs := gS.perm h (List.Perm.symm (pmD px_1))
  have hq := la_feed hwa hwb hm
  refine lv_icmp_eq (tgt := 1074) hx hb dL_law_224 (by decide) (fun c_224 => ?_) (fun c_224 => ?_)
  · exact kx (lW G ad md ou ng nw ua.2 nl ne gn nb ns l1 l2 l3 ua.1 l0 lf lt en ef et ep pr py ld ll lc bd bl sd sl ag z la tk tz lo wt tv D gc td tl fd st ca cs cb cd so bo rf of (upd (upd I 23 (nI ub.2)) 0 0) (va_up F 1 ub.1) rw gd gl) _ _ _ _ ls ⟨ng, nw, ua.2, nl, ne, gn, nb, ns, l1, l2, l3, ua.1, l0, lf, lt, en, ef, et, ep, pr, py, ld, ll, lc, bd, bl, sd, sl, ag, z, la, tk, tz, lo, wt, tv, D, gc, td, tl, fd, st, ca, cs, cb, cd, so, bo, rf, of, (upd (upd I 23 (nI ub.2)) 0 0), (va_up F 1 ub.1), rw, gd, gl, L, rfl, hq.2, by omega, by omega⟩ h (lv_sub hl [0, 1, 2, 3, 4] rfl)
  · exact absurd (hq.1) c_224

set_option maxHeartbeats 4000000 in
set_option maxRecDepth 100000 in
theorem lc_end {p : Program} {l : Launch} {e : Env} {s : State} {m : MethodId} {args : Array Value} {below : List Frame} {meth : Method} {c : Code} {cells slots : Nat} {Q : State → Prop} {G : gG} {A : Nat → Prop} (C : gC p m c cL_law 8 s args wsL_law RL G A) (ad md : Nat → Nat) (ou b Ls : Nat) (xs : Nat → Int32) (hX : va_X b Ls xs s s.heap) (hbl : b < s.heap.size) (hbA : ¬ A b) (hLs : Ls ≤ 3072) (i j : Nat) (hij : i = 6 * j) (hi6 : i + 6 ≤ Ls) (ng : Nat) (nw : Nat) (tn : Nat) (nl : Nat) (ne : Nat) (gn : Nat) (nb : Nat) (ns : Nat) (l1 : Nat) (l2 : Nat) (l3 : Nat) (tf : Nat → Int32) (l0 : Nat → Int32) (lf : Nat → Int32) (lt : Nat → Int32) (en : Nat → Int32) (ef : Nat → Int32) (et : Nat → Int32) (ep : Nat → Int32) (pr : Nat → Int32) (py : Nat → Int32) (ld : Nat → Int32) (ll : Nat → Int32) (lc : Nat → Int32) (bd : Nat → Int32) (bl : Nat → Int32) (sd : Nat → Int32) (sl : Nat → Int32) (ag : Nat → Int32) (z : RS) (la : Nat → Nat) (tk : Nat → Nat) (tz : Nat → Nat) (lo : Nat → Nat) (wt : Nat → Nat) (tv : Nat → Nat → Int32) (D : Nat → Nat → Int32) (gc : Int32) (td : Int32) (tl : Int32) (fd : Int32) (st : Int32) (ca : Int32) (cs : Int32) (cb : Int32) (cd : Int32) (so : Nat → Option Nat) (bo : Nat → Option Nat) (rf : Nat → Option Nat) (of : Nat → Int64) (I : Nat → Int32) (F : Nat → Nat → Int32) (rw : Nat) (gd : Int64) (gl : Int64) (L : Nat → Nat) (hm : hmR tn tf nl l0 lf lt tz tv ne en ef et ep ng D pr gn gc ld ll lc nw nb ns bd bl sd sl td tl fd st so ca cs cb cd I F L) (hcb : cells ≤ 200 + 10 * j + ltC gn) (hsb : slots ≤ 100000 + 300 * j + ltS gn)  (kx : ∀ (W9 : va_W) (cells slots : Nat) (H : Heap) (locs : List Loc) (ls : Array Slot), lwI G ad md ou (j + 1) W9 cells slots → gS G A s W9 H locs → lv_has ls 8 [(0, .ref b), (1, .ref (ad 0)), (2, .ref (md 0)), (3, .ref ou), (4, .int (nI i))] → W p l e room_1 s m args below meth c H locs cells slots Q (F0 m 1074 ls [])) (H : Heap) (locs : List Loc) (ls : Array Slot) (h : gS G A s (lW G ad md ou ng nw tn nl ne gn nb ns l1 l2 l3 tf l0 lf lt en ef et ep pr py ld ll lc bd bl sd sl ag z la tk tz lo wt tv D gc td tl fd st ca cs cb cd so bo rf of I F rw gd gl) H locs) (hl : lv_has ls 8 [(0, .ref b), (1, .ref (ad 0)), (2, .ref (md 0)), (3, .ref ou), (4, .int (nI i))]) : W p l e room_1 s m args below meth c H locs cells slots Q (F0 m 229 ls []) := by
  have hx := C.1.1.1
  have hb := C.1.1.2.1
  have hlt := lt_b gn
  have hm9 := hm
  obtain ⟨hT, hL, hE, hG, hP, hD, hN, hB, hC⟩ := hm9
  refine lv_aload_n hx hb dL_law_229 rfl (lv_at hl 1 rfl) ?_
  refine lv_aload_n hx hb dL_law_230 rfl (lv_at hl 0 rfl) ?_
  refine lv_iload hx hb dL_law_231 (lv_at hl 4 rfl) ?_
  refine lv_iconst (v := 1) hx hb dL_law_233 (by decide) ?_
  refine lv_iadd hx hb dL_law_234 ?_
  refine lv_cgi (y := nI (i + 1)) (ni_k i 1) ?_
  refine va_sld hx hb hX hbl hbA h.2.2 (i := (nI (i + 1))) (vp_in_nI (by omega) (by omega)) dL_law_235 ?_
  refine lv_cgi (y := xs (i + 1)) (nn_at xs (by omega)) ?_
  have hp := (pmD px_0 : List.Perm (lW G ad md ou ng nw tn nl ne gn nb ns l1 l2 l3 tf l0 lf lt en ef et ep pr py ld ll lc bd bl sd sl ag z la tk tz lo wt tv D gc td tl fd st ca cs cb cd so bo rf of I F rw gd gl : va_W) _)
  refine k_i C h hp (r_runV C h hp 0 rfl rfl (As := [.int (xs (i + 1))]) (rest := []) (h_end l G ad ng nw tn tf (xs (i + 1))) (cwV 1 C.1.1.2.2.2.2 gL_law_X9_end rfl rfl rfl (by decide +kernel) ⟨Nat.le_of_ble_eq_true rfl, Nat.le_of_ble_eq_true rfl⟩) rfl hl.1 (Nat.le_of_ble_eq_true rfl) dL_law_236 ⟨by show _ ≤ 601024; omega, by show _ ≤ 7293033; omega⟩) (fun ra ua H locs hwa h => ?_)
  rw [ed_c (xs (i + 1)) hT.1] at h
  have h : gS G A s (lW G ad md ou ng nw (edN tn (xs (i + 1))) nl ne gn nb ns l1 l2 l3 tf l0 lf lt en ef et ep pr py ld ll lc bd bl sd sl ag z la tk tz lo wt tv D gc td tl fd st ca cs cb cd so bo rf of I F rw gd gl) H locs := gS.perm h (List.Perm.symm (pmD px_0))
  refine lv_aload_n hx hb dL_law_239 rfl (lv_at hl 2 rfl) ?_
  refine lv_aload_n hx hb dL_law_240 rfl (lv_at hl 0 rfl) ?_
  refine lv_iload hx hb dL_law_241 (lv_at hl 4 rfl) ?_
  refine lv_iconst (v := 1) hx hb dL_law_243 (by decide) ?_
  refine lv_iadd hx hb dL_law_244 ?_
  refine lv_cgi (y := nI (i + 1)) (ni_k i 1) ?_
  refine va_sld hx hb hX hbl hbA h.2.2 (i := (nI (i + 1))) (vp_in_nI (by omega) (by omega)) dL_law_245 ?_
  refine lv_cgi (y := xs (i + 1)) (nn_at xs (by omega)) ?_
  have hp := (pmD px_1 : List.Perm (lW G ad md ou ng nw (edN tn (xs (i + 1))) nl ne gn nb ns l1 l2 l3 tf l0 lf lt en ef et ep pr py ld ll lc bd bl sd sl ag z la tk tz lo wt tv D gc td tl fd st ca cs cb cd so bo rf of I F rw gd gl : va_W) _)
  refine k_i C h hp (r_runV C h hp 0 rfl rfl (As := [.int (xs (i + 1))]) (rest := [.int ra]) (m_end l G md I F rw gd gl (xs (i + 1))) (cwV 1 C.1.1.2.2.2.2 gL_law_X10_end rfl rfl rfl (by decide +kernel) ⟨Nat.le_of_ble_eq_true rfl, Nat.le_of_ble_eq_true rfl⟩) rfl hl.1 (Nat.le_of_ble_eq_true rfl) dL_law_246 ⟨by show _ ≤ 601024; omega, by show _ ≤ 7293033; omega⟩) (fun rb ub H locs hwb h => ?_)
  have h : gS G A s (lW G ad md ou ng nw (edN tn (xs (i + 1))) nl ne gn nb ns l1 l2 l3 tf l0 lf lt en ef et ep pr py ld ll lc bd bl sd sl ag z la tk tz lo wt tv D gc td tl fd st ca cs cb cd so bo rf of ((mEnd I (xs (i + 1))).2) F rw gd gl) H locs := gS.perm h (List.Perm.symm (pmD px_1))
  have hq := la_end (xs (i + 1)) hm
  rw [← hwa, ← hwb] at hq
  refine lv_icmp_eq (tgt := 1074) hx hb dL_law_249 (by decide) (fun c_249 => ?_) (fun c_249 => ?_)
  · exact kx (lW G ad md ou ng nw (edN tn (xs (i + 1))) nl ne gn nb ns l1 l2 l3 tf l0 lf lt en ef et ep pr py ld ll lc bd bl sd sl ag z la tk tz lo wt tv D gc td tl fd st ca cs cb cd so bo rf of ((mEnd I (xs (i + 1))).2) F rw gd gl) _ _ _ _ ls ⟨ng, nw, (edN tn (xs (i + 1))), nl, ne, gn, nb, ns, l1, l2, l3, tf, l0, lf, lt, en, ef, et, ep, pr, py, ld, ll, lc, bd, bl, sd, sl, ag, z, la, tk, tz, lo, wt, tv, D, gc, td, tl, fd, st, ca, cs, cb, cd, so, bo, rf, of, ((mEnd I (xs (i + 1))).2), F, rw, gd, gl, L, rfl, hq.2, by omega, by omega⟩ h (lv_sub hl [0, 1, 2, 3, 4] rfl)
  · exact absurd (hq.1) c_249

set_option maxHeartbeats 4000000 in
set_option maxRecDepth 100000 in
theorem lc_fault {p : Program} {l : Launch} {e : Env} {s : State} {m : MethodId} {args : Array Value} {below : List Frame} {meth : Method} {c : Code} {cells slots : Nat} {Q : State → Prop} {G : gG} {A : Nat → Prop} (C : gC p m c cL_law 8 s args wsL_law RL G A) (ad md : Nat → Nat) (ou b Ls : Nat) (xs : Nat → Int32) (hX : va_X b Ls xs s s.heap) (hbl : b < s.heap.size) (hbA : ¬ A b) (hLs : Ls ≤ 3072) (i j : Nat) (hij : i = 6 * j) (hi6 : i + 6 ≤ Ls) (ng : Nat) (nw : Nat) (tn : Nat) (nl : Nat) (ne : Nat) (gn : Nat) (nb : Nat) (ns : Nat) (l1 : Nat) (l2 : Nat) (l3 : Nat) (tf : Nat → Int32) (l0 : Nat → Int32) (lf : Nat → Int32) (lt : Nat → Int32) (en : Nat → Int32) (ef : Nat → Int32) (et : Nat → Int32) (ep : Nat → Int32) (pr : Nat → Int32) (py : Nat → Int32) (ld : Nat → Int32) (ll : Nat → Int32) (lc : Nat → Int32) (bd : Nat → Int32) (bl : Nat → Int32) (sd : Nat → Int32) (sl : Nat → Int32) (ag : Nat → Int32) (z : RS) (la : Nat → Nat) (tk : Nat → Nat) (tz : Nat → Nat) (lo : Nat → Nat) (wt : Nat → Nat) (tv : Nat → Nat → Int32) (D : Nat → Nat → Int32) (gc : Int32) (td : Int32) (tl : Int32) (fd : Int32) (st : Int32) (ca : Int32) (cs : Int32) (cb : Int32) (cd : Int32) (so : Nat → Option Nat) (bo : Nat → Option Nat) (rf : Nat → Option Nat) (of : Nat → Int64) (I : Nat → Int32) (F : Nat → Nat → Int32) (rw : Nat) (gd : Int64) (gl : Int64) (L : Nat → Nat) (hm : hmR tn tf nl l0 lf lt tz tv ne en ef et ep ng D pr gn gc ld ll lc nw nb ns bd bl sd sl td tl fd st so ca cs cb cd I F L) (hcb : cells ≤ 200 + 10 * j + ltC gn) (hsb : slots ≤ 100000 + 300 * j + ltS gn)  (kx : ∀ (W9 : va_W) (cells slots : Nat) (H : Heap) (locs : List Loc) (ls : Array Slot), lwI G ad md ou (j + 1) W9 cells slots → gS G A s W9 H locs → lv_has ls 8 [(0, .ref b), (1, .ref (ad 0)), (2, .ref (md 0)), (3, .ref ou), (4, .int (nI i))] → W p l e room_1 s m args below meth c H locs cells slots Q (F0 m 1074 ls [])) (H : Heap) (locs : List Loc) (ls : Array Slot) (h : gS G A s (lW G ad md ou ng nw tn nl ne gn nb ns l1 l2 l3 tf l0 lf lt en ef et ep pr py ld ll lc bd bl sd sl ag z la tk tz lo wt tv D gc td tl fd st ca cs cb cd so bo rf of I F rw gd gl) H locs) (hl : lv_has ls 8 [(0, .ref b), (1, .ref (ad 0)), (2, .ref (md 0)), (3, .ref ou), (4, .int (nI i))]) : W p l e room_1 s m args below meth c H locs cells slots Q (F0 m 254 ls []) := by
  have hx := C.1.1.1
  have hb := C.1.1.2.1
  have hlt := lt_b gn
  have hm9 := hm
  obtain ⟨hT, hL, hE, hG, hP, hD, hN, hB, hC⟩ := hm9
  refine lv_aload_n hx hb dL_law_254 rfl (lv_at hl 1 rfl) ?_
  have hp := (pmD px_0 : List.Perm (lW G ad md ou ng nw tn nl ne gn nb ns l1 l2 l3 tf l0 lf lt en ef et ep pr py ld ll lc bd bl sd sl ag z la tk tz lo wt tv D gc td tl fd st ca cs cb cd so bo rf of I F rw gd gl : va_W) _)
  refine k_i C h hp (r_runV C h hp 0 rfl rfl (As := []) (rest := []) (h_fault l G ad ng nw tn tf hT.1) (cwV 0 C.1.1.2.2.2.2 gL_law_X9_fault rfl rfl rfl (by decide +kernel) ⟨Nat.le_of_ble_eq_true rfl, Nat.le_of_ble_eq_true rfl⟩) rfl hl.1 (Nat.le_of_ble_eq_true rfl) dL_law_255 ⟨by show _ ≤ 601024; omega, by show _ ≤ 7293033; omega⟩) (fun ra ua H locs hwa h => ?_)
  have h : gS G A s (lW G ad md ou ng nw tn nl ne gn nb ns l1 l2 l3 tf l0 lf lt en ef et ep pr py ld ll lc bd bl sd sl ag z la tk tz lo wt tv D gc td tl fd st ca cs cb cd so bo rf of I F rw gd gl) H locs := gS.perm h (List.Perm.symm (pmD px_0))
  refine lv_aload_n hx hb dL_law_258 rfl (lv_at hl 2 rfl) ?_
  have hp := (pmD px_1 : List.Perm (lW G ad md ou ng nw tn nl ne gn nb ns l1 l2 l3 tf l0 lf lt en ef et ep pr py ld ll lc bd bl sd sl ag z la tk tz lo wt tv D gc td tl fd st ca cs cb cd so bo rf of I F rw gd gl : va_W) _)
  refine k_i C h hp (r_runV C h hp 0 rfl rfl (As := []) (rest := [.int ra]) (m_fault l G md I F rw gd gl tn hT.2.1 hT.1) (cwV 0 C.1.1.2.2.2.2 gL_law_X10_fault rfl rfl rfl (by decide +kernel) ⟨Nat.le_of_ble_eq_true rfl, Nat.le_of_ble_eq_true rfl⟩) rfl hl.1 (Nat.le_of_ble_eq_true rfl) dL_law_259 ⟨by show _ ≤ 601024; omega, by show _ ≤ 7293033; omega⟩) (fun rb ub H locs hwb h => ?_)
  have h : gS G A s (lW G ad md ou ng nw tn nl ne gn nb ns l1 l2 l3 tf l0 lf lt en ef et ep pr py ld ll lc bd bl sd sl ag z la tk tz lo wt tv D gc td tl fd st ca cs cb cd so bo rf of ub.1 F ub.2.1 ub.2.2.1 ub.2.2.2) H locs := gS.perm h (List.Perm.symm (pmD px_1))
  have hq : ra = rb := by rw [hwa, hwb.1]; exact la_fault hT
  refine lv_icmp_eq (tgt := 1074) hx hb dL_law_262 (by decide) (fun c_262 => ?_) (fun c_262 => ?_)
  · exact kx (lW G ad md ou ng nw tn nl ne gn nb ns l1 l2 l3 tf l0 lf lt en ef et ep pr py ld ll lc bd bl sd sl ag z la tk tz lo wt tv D gc td tl fd st ca cs cb cd so bo rf of ub.1 F ub.2.1 ub.2.2.1 ub.2.2.2) _ _ _ _ ls ⟨ng, nw, tn, nl, ne, gn, nb, ns, l1, l2, l3, tf, l0, lf, lt, en, ef, et, ep, pr, py, ld, ll, lc, bd, bl, sd, sl, ag, z, la, tk, tz, lo, wt, tv, D, gc, td, tl, fd, st, ca, cs, cb, cd, so, bo, rf, of, ub.1, F, ub.2.1, ub.2.2.1, ub.2.2.2, L, rfl, (hm_jm (jm_th hwb.2) hm), by omega, by omega⟩ h (lv_sub hl [0, 1, 2, 3, 4] rfl)
  · exact absurd (hq) c_262

set_option maxHeartbeats 4000000 in
set_option maxRecDepth 100000 in
theorem lc_force {p : Program} {l : Launch} {e : Env} {s : State} {m : MethodId} {args : Array Value} {below : List Frame} {meth : Method} {c : Code} {cells slots : Nat} {Q : State → Prop} {G : gG} {A : Nat → Prop} (C : gC p m c cL_law 8 s args wsL_law RL G A) (ad md : Nat → Nat) (ou b Ls : Nat) (xs : Nat → Int32) (hX : va_X b Ls xs s s.heap) (hbl : b < s.heap.size) (hbA : ¬ A b) (hLs : Ls ≤ 3072) (i j : Nat) (hij : i = 6 * j) (hi6 : i + 6 ≤ Ls) (ng : Nat) (nw : Nat) (tn : Nat) (nl : Nat) (ne : Nat) (gn : Nat) (nb : Nat) (ns : Nat) (l1 : Nat) (l2 : Nat) (l3 : Nat) (tf : Nat → Int32) (l0 : Nat → Int32) (lf : Nat → Int32) (lt : Nat → Int32) (en : Nat → Int32) (ef : Nat → Int32) (et : Nat → Int32) (ep : Nat → Int32) (pr : Nat → Int32) (py : Nat → Int32) (ld : Nat → Int32) (ll : Nat → Int32) (lc : Nat → Int32) (bd : Nat → Int32) (bl : Nat → Int32) (sd : Nat → Int32) (sl : Nat → Int32) (ag : Nat → Int32) (z : RS) (la : Nat → Nat) (tk : Nat → Nat) (tz : Nat → Nat) (lo : Nat → Nat) (wt : Nat → Nat) (tv : Nat → Nat → Int32) (D : Nat → Nat → Int32) (gc : Int32) (td : Int32) (tl : Int32) (fd : Int32) (st : Int32) (ca : Int32) (cs : Int32) (cb : Int32) (cd : Int32) (so : Nat → Option Nat) (bo : Nat → Option Nat) (rf : Nat → Option Nat) (of : Nat → Int64) (I : Nat → Int32) (F : Nat → Nat → Int32) (rw : Nat) (gd : Int64) (gl : Int64) (L : Nat → Nat) (hm : hmR tn tf nl l0 lf lt tz tv ne en ef et ep ng D pr gn gc ld ll lc nw nb ns bd bl sd sl td tl fd st so ca cs cb cd I F L) (hcb : cells ≤ 200 + 10 * j + ltC gn) (hsb : slots ≤ 100000 + 300 * j + ltS gn)  (kx : ∀ (W9 : va_W) (cells slots : Nat) (H : Heap) (locs : List Loc) (ls : Array Slot), lwI G ad md ou (j + 1) W9 cells slots → gS G A s W9 H locs → lv_has ls 8 [(0, .ref b), (1, .ref (ad 0)), (2, .ref (md 0)), (3, .ref ou), (4, .int (nI i))] → W p l e room_1 s m args below meth c H locs cells slots Q (F0 m 1074 ls [])) (H : Heap) (locs : List Loc) (ls : Array Slot) (h : gS G A s (lW G ad md ou ng nw tn nl ne gn nb ns l1 l2 l3 tf l0 lf lt en ef et ep pr py ld ll lc bd bl sd sl ag z la tk tz lo wt tv D gc td tl fd st ca cs cb cd so bo rf of I F rw gd gl) H locs) (hl : lv_has ls 8 [(0, .ref b), (1, .ref (ad 0)), (2, .ref (md 0)), (3, .ref ou), (4, .int (nI i))]) : W p l e room_1 s m args below meth c H locs cells slots Q (F0 m 371 ls []) := by
  have hx := C.1.1.1
  have hb := C.1.1.2.1
  have hlt := lt_b gn
  have hm9 := hm
  obtain ⟨hT, hL, hE, hG, hP, hD, hN, hB, hC⟩ := hm9
  refine lv_aload_n hx hb dL_law_371 rfl (lv_at hl 1 rfl) ?_
  refine lv_aload_n hx hb dL_law_372 rfl (lv_at hl 0 rfl) ?_
  refine lv_iload hx hb dL_law_373 (lv_at hl 4 rfl) ?_
  refine lv_iconst (v := 1) hx hb dL_law_375 (by decide) ?_
  refine lv_iadd hx hb dL_law_376 ?_
  refine lv_cgi (y := nI (i + 1)) (ni_k i 1) ?_
  refine va_sld hx hb hX hbl hbA h.2.2 (i := (nI (i + 1))) (vp_in_nI (by omega) (by omega)) dL_law_377 ?_
  refine lv_cgi (y := xs (i + 1)) (nn_at xs (by omega)) ?_
  refine lv_aload_n hx hb dL_law_378 rfl (lv_at hl 0 rfl) ?_
  refine lv_iload hx hb dL_law_379 (lv_at hl 4 rfl) ?_
  refine lv_iconst (v := 2) hx hb dL_law_381 (by decide) ?_
  refine lv_iadd hx hb dL_law_382 ?_
  refine lv_cgi (y := nI (i + 2)) (ni_k i 2) ?_
  refine va_sld hx hb hX hbl hbA h.2.2 (i := (nI (i + 2))) (vp_in_nI (by omega) (by omega)) dL_law_383 ?_
  refine lv_cgi (y := xs (i + 2)) (nn_at xs (by omega)) ?_
  have hp := (pmD px_2 : List.Perm (lW G ad md ou ng nw tn nl ne gn nb ns l1 l2 l3 tf l0 lf lt en ef et ep pr py ld ll lc bd bl sd sl ag z la tk tz lo wt tv D gc td tl fd st ca cs cb cd so bo rf of I F rw gd gl : va_W) _)
  refine k_i C h hp (r_runV C h hp 0 rfl rfl (As := [.int (xs (i + 1)), .int (xs (i + 2))]) (rest := []) (h_force l G ad ng nw nl l0 lf lt (xs (i + 1)) (xs (i + 2)) hL.1) (cwV 2 C.1.1.2.2.2.2 gL_law_X9_force rfl rfl rfl (by decide +kernel) ⟨Nat.le_of_ble_eq_true rfl, Nat.le_of_ble_eq_true rfl⟩) rfl hl.1 (Nat.le_of_ble_eq_true rfl) dL_law_384 ⟨by show _ ≤ 601024; omega, by show _ ≤ 7293033; omega⟩) (fun ra ua H locs hwa h => ?_)
  have h : gS G A s (lW G ad md ou ng nw tn nl ne gn nb ns l1 l2 l3 tf l0 lf lt en ef et ep pr py ld ll lc bd bl sd sl ag z la tk tz lo wt tv D gc td tl fd st ca cs cb cd so bo rf of I F rw gd gl) H locs := gS.perm h (List.Perm.symm (pmD px_2))
  refine lv_aload_n hx hb dL_law_387 rfl (lv_at hl 2 rfl) ?_
  refine lv_aload_n hx hb dL_law_388 rfl (lv_at hl 0 rfl) ?_
  refine lv_iload hx hb dL_law_389 (lv_at hl 4 rfl) ?_
  refine lv_iconst (v := 1) hx hb dL_law_391 (by decide) ?_
  refine lv_iadd hx hb dL_law_392 ?_
  refine lv_cgi (y := nI (i + 1)) (ni_k i 1) ?_
  refine va_sld hx hb hX hbl hbA h.2.2 (i := (nI (i + 1))) (vp_in_nI (by omega) (by omega)) dL_law_393 ?_
  refine lv_cgi (y := xs (i + 1)) (nn_at xs (by omega)) ?_
  refine lv_aload_n hx hb dL_law_394 rfl (lv_at hl 0 rfl) ?_
  refine lv_iload hx hb dL_law_395 (lv_at hl 4 rfl) ?_
  refine lv_iconst (v := 2) hx hb dL_law_397 (by decide) ?_
  refine lv_iadd hx hb dL_law_398 ?_
  refine lv_cgi (y := nI (i + 2)) (ni_k i 2) ?_
  refine va_sld hx hb hX hbl hbA h.2.2 (i := (nI (i + 2))) (vp_in_nI (by omega) (by omega)) dL_law_399 ?_
  refine lv_cgi (y := xs (i + 2)) (nn_at xs (by omega)) ?_
  have hp := (pmD px_1 : List.Perm (lW G ad md ou ng nw tn nl ne gn nb ns l1 l2 l3 tf l0 lf lt en ef et ep pr py ld ll lc bd bl sd sl ag z la tk tz lo wt tv D gc td tl fd st ca cs cb cd so bo rf of I F rw gd gl : va_W) _)
  refine k_i C h hp (r_runV C h hp 0 rfl rfl (As := [.int (xs (i + 1)), .int (xs (i + 2))]) (rest := [.int ra]) (m_force l G md I F rw gd gl nl hL.2.1 hL.1 (xs (i + 1)) (xs (i + 2))) (cwV 2 C.1.1.2.2.2.2 gL_law_X10_force rfl rfl rfl (by decide +kernel) ⟨Nat.le_of_ble_eq_true rfl, Nat.le_of_ble_eq_true rfl⟩) rfl hl.1 (Nat.le_of_ble_eq_true rfl) dL_law_400 ⟨by show _ ≤ 601024; omega, by show _ ≤ 7293033; omega⟩) (fun rb ub H locs hwb h => ?_)
  have h : gS G A s (lW G ad md ou ng nw tn nl ne gn nb ns l1 l2 l3 tf l0 lf lt en ef et ep pr py ld ll lc bd bl sd sl ag z la tk tz lo wt tv D gc td tl fd st ca cs cb cd so bo rf of ((mForce I F nl (xs (i + 1)) (xs (i + 2))).2) F rw gd gl) H locs := gS.perm h (List.Perm.symm (pmD px_1))
  have hq := la_force (xs (i + 1)) (xs (i + 2)) hm
  rw [← hwa, ← hwb] at hq
  refine lv_icmp_eq (tgt := 1074) hx hb dL_law_403 (by decide) (fun c_403 => ?_) (fun c_403 => ?_)
  · exact kx (lW G ad md ou ng nw tn nl ne gn nb ns l1 l2 l3 tf l0 lf lt en ef et ep pr py ld ll lc bd bl sd sl ag z la tk tz lo wt tv D gc td tl fd st ca cs cb cd so bo rf of ((mForce I F nl (xs (i + 1)) (xs (i + 2))).2) F rw gd gl) _ _ _ _ ls ⟨ng, nw, tn, nl, ne, gn, nb, ns, l1, l2, l3, tf, l0, lf, lt, en, ef, et, ep, pr, py, ld, ll, lc, bd, bl, sd, sl, ag, z, la, tk, tz, lo, wt, tv, D, gc, td, tl, fd, st, ca, cs, cb, cd, so, bo, rf, of, ((mForce I F nl (xs (i + 1)) (xs (i + 2))).2), F, rw, gd, gl, L, rfl, (hm_jm hq.2 hm), by omega, by omega⟩ h (lv_sub hl [0, 1, 2, 3, 4] rfl)
  · exact absurd (hq.1) c_403

set_option maxHeartbeats 4000000 in
set_option maxRecDepth 100000 in
theorem lc_most {p : Program} {l : Launch} {e : Env} {s : State} {m : MethodId} {args : Array Value} {below : List Frame} {meth : Method} {c : Code} {cells slots : Nat} {Q : State → Prop} {G : gG} {A : Nat → Prop} (C : gC p m c cL_law 8 s args wsL_law RL G A) (ad md : Nat → Nat) (ou b Ls : Nat) (xs : Nat → Int32) (hX : va_X b Ls xs s s.heap) (hbl : b < s.heap.size) (hbA : ¬ A b) (hLs : Ls ≤ 3072) (i j : Nat) (hij : i = 6 * j) (hi6 : i + 6 ≤ Ls) (ng : Nat) (nw : Nat) (tn : Nat) (nl : Nat) (ne : Nat) (gn : Nat) (nb : Nat) (ns : Nat) (l1 : Nat) (l2 : Nat) (l3 : Nat) (tf : Nat → Int32) (l0 : Nat → Int32) (lf : Nat → Int32) (lt : Nat → Int32) (en : Nat → Int32) (ef : Nat → Int32) (et : Nat → Int32) (ep : Nat → Int32) (pr : Nat → Int32) (py : Nat → Int32) (ld : Nat → Int32) (ll : Nat → Int32) (lc : Nat → Int32) (bd : Nat → Int32) (bl : Nat → Int32) (sd : Nat → Int32) (sl : Nat → Int32) (ag : Nat → Int32) (z : RS) (la : Nat → Nat) (tk : Nat → Nat) (tz : Nat → Nat) (lo : Nat → Nat) (wt : Nat → Nat) (tv : Nat → Nat → Int32) (D : Nat → Nat → Int32) (gc : Int32) (td : Int32) (tl : Int32) (fd : Int32) (st : Int32) (ca : Int32) (cs : Int32) (cb : Int32) (cd : Int32) (so : Nat → Option Nat) (bo : Nat → Option Nat) (rf : Nat → Option Nat) (of : Nat → Int64) (I : Nat → Int32) (F : Nat → Nat → Int32) (rw : Nat) (gd : Int64) (gl : Int64) (L : Nat → Nat) (hm : hmR tn tf nl l0 lf lt tz tv ne en ef et ep ng D pr gn gc ld ll lc nw nb ns bd bl sd sl td tl fd st so ca cs cb cd I F L) (hcb : cells ≤ 200 + 10 * j + ltC gn) (hsb : slots ≤ 100000 + 300 * j + ltS gn)  (kx : ∀ (W9 : va_W) (cells slots : Nat) (H : Heap) (locs : List Loc) (ls : Array Slot), lwI G ad md ou (j + 1) W9 cells slots → gS G A s W9 H locs → lv_has ls 8 [(0, .ref b), (1, .ref (ad 0)), (2, .ref (md 0)), (3, .ref ou), (4, .int (nI i))] → W p l e room_1 s m args below meth c H locs cells slots Q (F0 m 1074 ls [])) (H : Heap) (locs : List Loc) (ls : Array Slot) (h : gS G A s (lW G ad md ou ng nw tn nl ne gn nb ns l1 l2 l3 tf l0 lf lt en ef et ep pr py ld ll lc bd bl sd sl ag z la tk tz lo wt tv D gc td tl fd st ca cs cb cd so bo rf of I F rw gd gl) H locs) (hl : lv_has ls 8 [(0, .ref b), (1, .ref (ad 0)), (2, .ref (md 0)), (3, .ref ou), (4, .int (nI i))]) : W p l e room_1 s m args below meth c H locs cells slots Q (F0 m 408 ls []) := by
  have hx := C.1.1.1
  have hb := C.1.1.2.1
  have hlt := lt_b gn
  have hm9 := hm
  obtain ⟨hT, hL, hE, hG, hP, hD, hN, hB, hC⟩ := hm9
  refine lv_aload_n hx hb dL_law_408 rfl (lv_at hl 1 rfl) ?_
  refine lv_aload_n hx hb dL_law_409 rfl (lv_at hl 0 rfl) ?_
  refine lv_iload hx hb dL_law_410 (lv_at hl 4 rfl) ?_
  refine lv_iconst (v := 1) hx hb dL_law_412 (by decide) ?_
  refine lv_iadd hx hb dL_law_413 ?_
  refine lv_cgi (y := nI (i + 1)) (ni_k i 1) ?_
  refine va_sld hx hb hX hbl hbA h.2.2 (i := (nI (i + 1))) (vp_in_nI (by omega) (by omega)) dL_law_414 ?_
  refine lv_cgi (y := xs (i + 1)) (nn_at xs (by omega)) ?_
  refine lv_aload_n hx hb dL_law_415 rfl (lv_at hl 0 rfl) ?_
  refine lv_iload hx hb dL_law_416 (lv_at hl 4 rfl) ?_
  refine lv_iconst (v := 2) hx hb dL_law_418 (by decide) ?_
  refine lv_iadd hx hb dL_law_419 ?_
  refine lv_cgi (y := nI (i + 2)) (ni_k i 2) ?_
  refine va_sld hx hb hX hbl hbA h.2.2 (i := (nI (i + 2))) (vp_in_nI (by omega) (by omega)) dL_law_420 ?_
  refine lv_cgi (y := xs (i + 2)) (nn_at xs (by omega)) ?_
  have hp := (pmAT px_3 : List.Perm (lW G ad md ou ng nw tn nl ne gn nb ns l1 l2 l3 tf l0 lf lt en ef et ep pr py ld ll lc bd bl sd sl ag z la tk tz lo wt tv D gc td tl fd st ca cs cb cd so bo rf of I F rw gd gl : va_W) _)
  refine k_i C h hp (r_runV C h hp 0 rfl rfl (As := [.int (xs (i + 1)), .int (xs (i + 2))]) (rest := []) (h_most l G ad ng nw nl ne l0 lf lt la tk tz tv ep (mLv F L) (rL_S hL hE hG) z (xs (i + 1)) (xs (i + 2))) (cwV 2 C.1.1.2.2.2.2 gL_law_X9_most rfl rfl rfl (by decide +kernel) ⟨Nat.le_of_ble_eq_true rfl, Nat.le_of_ble_eq_true rfl⟩) rfl hl.1 (Nat.le_of_ble_eq_true rfl) dL_law_421 ⟨by show _ ≤ 601024; omega, by show _ ≤ 7293033; omega⟩) (fun ra ua H locs hwa h => ?_)
  have h : gS G A s (lW G ad md ou ng nw tn nl ne gn nb ns l1 l2 l3 tf l0 lf lt en ef et ep pr py ld ll lc bd bl sd sl ag ua la tk tz lo wt tv D gc td tl fd st ca cs cb cd so bo rf of I F rw gd gl) H locs := gS.perm h (List.Perm.symm (pmAT px_3))
  refine lv_aload_n hx hb dL_law_424 rfl (lv_at hl 2 rfl) ?_
  refine lv_aload_n hx hb dL_law_425 rfl (lv_at hl 0 rfl) ?_
  refine lv_iload hx hb dL_law_426 (lv_at hl 4 rfl) ?_
  refine lv_iconst (v := 1) hx hb dL_law_428 (by decide) ?_
  refine lv_iadd hx hb dL_law_429 ?_
  refine lv_cgi (y := nI (i + 1)) (ni_k i 1) ?_
  refine va_sld hx hb hX hbl hbA h.2.2 (i := (nI (i + 1))) (vp_in_nI (by omega) (by omega)) dL_law_430 ?_
  refine lv_cgi (y := xs (i + 1)) (nn_at xs (by omega)) ?_
  refine lv_aload_n hx hb dL_law_431 rfl (lv_at hl 0 rfl) ?_
  refine lv_iload hx hb dL_law_432 (lv_at hl 4 rfl) ?_
  refine lv_iconst (v := 2) hx hb dL_law_434 (by decide) ?_
  refine lv_iadd hx hb dL_law_435 ?_
  refine lv_cgi (y := nI (i + 2)) (ni_k i 2) ?_
  refine va_sld hx hb hX hbl hbA h.2.2 (i := (nI (i + 2))) (vp_in_nI (by omega) (by omega)) dL_law_436 ?_
  refine lv_cgi (y := xs (i + 2)) (nn_at xs (by omega)) ?_
  have hp := (pmD px_1 : List.Perm (lW G ad md ou ng nw tn nl ne gn nb ns l1 l2 l3 tf l0 lf lt en ef et ep pr py ld ll lc bd bl sd sl ag ua la tk tz lo wt tv D gc td tl fd st ca cs cb cd so bo rf of I F rw gd gl : va_W) _)
  refine k_i C h hp (r_runV C h hp 0 rfl rfl (As := [.int (xs (i + 1)), .int (xs (i + 2))]) (rest := [.int ra]) (m_most l G md I F rw gd gl nl L hL.2.1 (rL_ls hL) hL.1 (xs (i + 1)) (xs (i + 2))) (cwV 2 C.1.1.2.2.2.2 gL_law_X10_most rfl rfl rfl (by decide +kernel) ⟨Nat.le_of_ble_eq_true rfl, Nat.le_of_ble_eq_true rfl⟩) rfl hl.1 (Nat.le_of_ble_eq_true rfl) dL_law_437 ⟨by show _ ≤ 601024; omega, by show _ ≤ 7293033; omega⟩) (fun rb ub H locs hwb h => ?_)
  have h : gS G A s (lW G ad md ou ng nw tn nl ne gn nb ns l1 l2 l3 tf l0 lf lt en ef et ep pr py ld ll lc bd bl sd sl ag ua la tk tz lo wt tv D gc td tl fd st ca cs cb cd so bo rf of ub.1 F ub.2.1 ub.2.2.1 ub.2.2.2) H locs := gS.perm h (List.Perm.symm (pmD px_1))
  have hq : ra = rb := by rw [hwa, hwb.1]; exact la_most (xs (i + 1)) (xs (i + 2)) hm
  refine lv_icmp_eq (tgt := 1074) hx hb dL_law_440 (by decide) (fun c_440 => ?_) (fun c_440 => ?_)
  · exact kx (lW G ad md ou ng nw tn nl ne gn nb ns l1 l2 l3 tf l0 lf lt en ef et ep pr py ld ll lc bd bl sd sl ag ua la tk tz lo wt tv D gc td tl fd st ca cs cb cd so bo rf of ub.1 F ub.2.1 ub.2.2.1 ub.2.2.2) _ _ _ _ ls ⟨ng, nw, tn, nl, ne, gn, nb, ns, l1, l2, l3, tf, l0, lf, lt, en, ef, et, ep, pr, py, ld, ll, lc, bd, bl, sd, sl, ag, ua, la, tk, tz, lo, wt, tv, D, gc, td, tl, fd, st, ca, cs, cb, cd, so, bo, rf, of, ub.1, F, ub.2.1, ub.2.2.1, ub.2.2.2, L, rfl, (hm_jm (jm_th hwb.2) hm), by omega, by omega⟩ h (lv_sub hl [0, 1, 2, 3, 4] rfl)
  · exact absurd (hq) c_440

set_option maxHeartbeats 4000000 in
set_option maxRecDepth 100000 in
theorem lc_error {p : Program} {l : Launch} {e : Env} {s : State} {m : MethodId} {args : Array Value} {below : List Frame} {meth : Method} {c : Code} {cells slots : Nat} {Q : State → Prop} {G : gG} {A : Nat → Prop} (C : gC p m c cL_law 8 s args wsL_law RL G A) (ad md : Nat → Nat) (ou b Ls : Nat) (xs : Nat → Int32) (hX : va_X b Ls xs s s.heap) (hbl : b < s.heap.size) (hbA : ¬ A b) (hLs : Ls ≤ 3072) (i j : Nat) (hij : i = 6 * j) (hi6 : i + 6 ≤ Ls) (ng : Nat) (nw : Nat) (tn : Nat) (nl : Nat) (ne : Nat) (gn : Nat) (nb : Nat) (ns : Nat) (l1 : Nat) (l2 : Nat) (l3 : Nat) (tf : Nat → Int32) (l0 : Nat → Int32) (lf : Nat → Int32) (lt : Nat → Int32) (en : Nat → Int32) (ef : Nat → Int32) (et : Nat → Int32) (ep : Nat → Int32) (pr : Nat → Int32) (py : Nat → Int32) (ld : Nat → Int32) (ll : Nat → Int32) (lc : Nat → Int32) (bd : Nat → Int32) (bl : Nat → Int32) (sd : Nat → Int32) (sl : Nat → Int32) (ag : Nat → Int32) (z : RS) (la : Nat → Nat) (tk : Nat → Nat) (tz : Nat → Nat) (lo : Nat → Nat) (wt : Nat → Nat) (tv : Nat → Nat → Int32) (D : Nat → Nat → Int32) (gc : Int32) (td : Int32) (tl : Int32) (fd : Int32) (st : Int32) (ca : Int32) (cs : Int32) (cb : Int32) (cd : Int32) (so : Nat → Option Nat) (bo : Nat → Option Nat) (rf : Nat → Option Nat) (of : Nat → Int64) (I : Nat → Int32) (F : Nat → Nat → Int32) (rw : Nat) (gd : Int64) (gl : Int64) (L : Nat → Nat) (hm : hmR tn tf nl l0 lf lt tz tv ne en ef et ep ng D pr gn gc ld ll lc nw nb ns bd bl sd sl td tl fd st so ca cs cb cd I F L) (hcb : cells ≤ 200 + 10 * j + ltC gn) (hsb : slots ≤ 100000 + 300 * j + ltS gn)  (kx : ∀ (W9 : va_W) (cells slots : Nat) (H : Heap) (locs : List Loc) (ls : Array Slot), lwI G ad md ou (j + 1) W9 cells slots → gS G A s W9 H locs → lv_has ls 8 [(0, .ref b), (1, .ref (ad 0)), (2, .ref (md 0)), (3, .ref ou), (4, .int (nI i))] → W p l e room_1 s m args below meth c H locs cells slots Q (F0 m 1074 ls [])) (H : Heap) (locs : List Loc) (ls : Array Slot) (h : gS G A s (lW G ad md ou ng nw tn nl ne gn nb ns l1 l2 l3 tf l0 lf lt en ef et ep pr py ld ll lc bd bl sd sl ag z la tk tz lo wt tv D gc td tl fd st ca cs cb cd so bo rf of I F rw gd gl) H locs) (hl : lv_has ls 8 [(0, .ref b), (1, .ref (ad 0)), (2, .ref (md 0)), (3, .ref ou), (4, .int (nI i))]) : W p l e room_1 s m args below meth c H locs cells slots Q (F0 m 445 ls []) := by
  have hx := C.1.1.1
  have hb := C.1.1.2.1
  have hlt := lt_b gn
  have hm9 := hm
  obtain ⟨hT, hL, hE, hG, hP, hD, hN, hB, hC⟩ := hm9
  refine lv_aload_n hx hb dL_law_445 rfl (lv_at hl 1 rfl) ?_
  refine lv_aload_n hx hb dL_law_446 rfl (lv_at hl 0 rfl) ?_
  refine lv_iload hx hb dL_law_447 (lv_at hl 4 rfl) ?_
  refine lv_iconst (v := 1) hx hb dL_law_449 (by decide) ?_
  refine lv_iadd hx hb dL_law_450 ?_
  refine lv_cgi (y := nI (i + 1)) (ni_k i 1) ?_
  refine va_sld hx hb hX hbl hbA h.2.2 (i := (nI (i + 1))) (vp_in_nI (by omega) (by omega)) dL_law_451 ?_
  refine lv_cgi (y := xs (i + 1)) (nn_at xs (by omega)) ?_
  refine lv_aload_n hx hb dL_law_452 rfl (lv_at hl 0 rfl) ?_
  refine lv_iload hx hb dL_law_453 (lv_at hl 4 rfl) ?_
  refine lv_iconst (v := 2) hx hb dL_law_455 (by decide) ?_
  refine lv_iadd hx hb dL_law_456 ?_
  refine lv_cgi (y := nI (i + 2)) (ni_k i 2) ?_
  refine va_sld hx hb hX hbl hbA h.2.2 (i := (nI (i + 2))) (vp_in_nI (by omega) (by omega)) dL_law_457 ?_
  refine lv_cgi (y := xs (i + 2)) (nn_at xs (by omega)) ?_
  refine lv_aload_n hx hb dL_law_458 rfl (lv_at hl 0 rfl) ?_
  refine lv_iload hx hb dL_law_459 (lv_at hl 4 rfl) ?_
  refine lv_iconst (v := 3) hx hb dL_law_461 (by decide) ?_
  refine lv_iadd hx hb dL_law_462 ?_
  refine lv_cgi (y := nI (i + 3)) (ni_k i 3) ?_
  refine va_sld hx hb hX hbl hbA h.2.2 (i := (nI (i + 3))) (vp_in_nI (by omega) (by omega)) dL_law_463 ?_
  refine lv_cgi (y := xs (i + 3)) (nn_at xs (by omega)) ?_
  have hp := (pmD px_4 : List.Perm (lW G ad md ou ng nw tn nl ne gn nb ns l1 l2 l3 tf l0 lf lt en ef et ep pr py ld ll lc bd bl sd sl ag z la tk tz lo wt tv D gc td tl fd st ca cs cb cd so bo rf of I F rw gd gl : va_W) _)
  refine k_i C h hp (r_runV C h hp 0 rfl rfl (As := [.int (xs (i + 1)), .int (xs (i + 2)), .int (xs (i + 3))]) (rest := []) (h_error l G ad ng nw ne en ef et ep (xs (i + 1)) (xs (i + 2)) (xs (i + 3)) hE.1) (cwV 3 C.1.1.2.2.2.2 gL_law_X9_error rfl rfl rfl (by decide +kernel) ⟨Nat.le_of_ble_eq_true rfl, Nat.le_of_ble_eq_true rfl⟩) rfl hl.1 (Nat.le_of_ble_eq_true rfl) dL_law_464 ⟨by show _ ≤ 601024; omega, by show _ ≤ 7293033; omega⟩) (fun ra ua H locs hwa h => ?_)
  have h : gS G A s (lW G ad md ou ng nw tn nl (if hEok ne (xs (i + 1)) (xs (i + 2)) (xs (i + 3)) = true then ne + 1 else ne) gn nb ns l1 l2 l3 tf l0 lf lt (if hEok ne (xs (i + 1)) (xs (i + 2)) (xs (i + 3)) = true then upd en ne (xs (i + 1)) else en) (if hEok ne (xs (i + 1)) (xs (i + 2)) (xs (i + 3)) = true then upd ef ne (xs (i + 3)) else ef) (if hEok ne (xs (i + 1)) (xs (i + 2)) (xs (i + 3)) = true then upd et ne (nI nw) else et) (if hEok ne (xs (i + 1)) (xs (i + 2)) (xs (i + 3)) = true then upd ep ne (xs (i + 2)) else ep) pr py ld ll lc bd bl sd sl ag z la tk tz lo wt tv D gc td tl fd st ca cs cb cd so bo rf of I F rw gd gl) H locs := gS.perm h (List.Perm.symm (pmD px_4))
  refine lv_aload_n hx hb dL_law_467 rfl (lv_at hl 2 rfl) ?_
  refine lv_aload_n hx hb dL_law_468 rfl (lv_at hl 0 rfl) ?_
  refine lv_iload hx hb dL_law_469 (lv_at hl 4 rfl) ?_
  refine lv_iconst (v := 1) hx hb dL_law_471 (by decide) ?_
  refine lv_iadd hx hb dL_law_472 ?_
  refine lv_cgi (y := nI (i + 1)) (ni_k i 1) ?_
  refine va_sld hx hb hX hbl hbA h.2.2 (i := (nI (i + 1))) (vp_in_nI (by omega) (by omega)) dL_law_473 ?_
  refine lv_cgi (y := xs (i + 1)) (nn_at xs (by omega)) ?_
  refine lv_aload_n hx hb dL_law_474 rfl (lv_at hl 0 rfl) ?_
  refine lv_iload hx hb dL_law_475 (lv_at hl 4 rfl) ?_
  refine lv_iconst (v := 2) hx hb dL_law_477 (by decide) ?_
  refine lv_iadd hx hb dL_law_478 ?_
  refine lv_cgi (y := nI (i + 2)) (ni_k i 2) ?_
  refine va_sld hx hb hX hbl hbA h.2.2 (i := (nI (i + 2))) (vp_in_nI (by omega) (by omega)) dL_law_479 ?_
  refine lv_cgi (y := xs (i + 2)) (nn_at xs (by omega)) ?_
  refine lv_aload_n hx hb dL_law_480 rfl (lv_at hl 0 rfl) ?_
  refine lv_iload hx hb dL_law_481 (lv_at hl 4 rfl) ?_
  refine lv_iconst (v := 3) hx hb dL_law_483 (by decide) ?_
  refine lv_iadd hx hb dL_law_484 ?_
  refine lv_cgi (y := nI (i + 3)) (ni_k i 3) ?_
  refine va_sld hx hb hX hbl hbA h.2.2 (i := (nI (i + 3))) (vp_in_nI (by omega) (by omega)) dL_law_485 ?_
  refine lv_cgi (y := xs (i + 3)) (nn_at xs (by omega)) ?_
  have hp := (pmD px_1 : List.Perm (lW G ad md ou ng nw tn nl (if hEok ne (xs (i + 1)) (xs (i + 2)) (xs (i + 3)) = true then ne + 1 else ne) gn nb ns l1 l2 l3 tf l0 lf lt (if hEok ne (xs (i + 1)) (xs (i + 2)) (xs (i + 3)) = true then upd en ne (xs (i + 1)) else en) (if hEok ne (xs (i + 1)) (xs (i + 2)) (xs (i + 3)) = true then upd ef ne (xs (i + 3)) else ef) (if hEok ne (xs (i + 1)) (xs (i + 2)) (xs (i + 3)) = true then upd et ne (nI nw) else et) (if hEok ne (xs (i + 1)) (xs (i + 2)) (xs (i + 3)) = true then upd ep ne (xs (i + 2)) else ep) pr py ld ll lc bd bl sd sl ag z la tk tz lo wt tv D gc td tl fd st ca cs cb cd so bo rf of I F rw gd gl : va_W) _)
  refine k_i C h hp (r_runV C h hp 0 rfl rfl (As := [.int (xs (i + 1)), .int (xs (i + 2)), .int (xs (i + 3))]) (rest := [.int ra]) (m_error l G md I F rw gd gl (xs (i + 1)) (xs (i + 2)) (xs (i + 3)) ⟨ne, hE.1, hE.2.1⟩) (cwV 3 C.1.1.2.2.2.2 gL_law_X10_error rfl rfl rfl (by decide +kernel) ⟨Nat.le_of_ble_eq_true rfl, Nat.le_of_ble_eq_true rfl⟩) rfl hl.1 (Nat.le_of_ble_eq_true rfl) dL_law_486 ⟨by show _ ≤ 601024; omega, by show _ ≤ 7293033; omega⟩) (fun rb ub H locs hwb h => ?_)
  have h : gS G A s (lW G ad md ou ng nw tn nl (if hEok ne (xs (i + 1)) (xs (i + 2)) (xs (i + 3)) = true then ne + 1 else ne) gn nb ns l1 l2 l3 tf l0 lf lt (if hEok ne (xs (i + 1)) (xs (i + 2)) (xs (i + 3)) = true then upd en ne (xs (i + 1)) else en) (if hEok ne (xs (i + 1)) (xs (i + 2)) (xs (i + 3)) = true then upd ef ne (xs (i + 3)) else ef) (if hEok ne (xs (i + 1)) (xs (i + 2)) (xs (i + 3)) = true then upd et ne (nI nw) else et) (if hEok ne (xs (i + 1)) (xs (i + 2)) (xs (i + 3)) = true then upd ep ne (xs (i + 2)) else ep) pr py ld ll lc bd bl sd sl ag z la tk tz lo wt tv D gc td tl fd st ca cs cb cd so bo rf of ((mError I F (xs (i + 1)) (xs (i + 2)) (xs (i + 3))).2.1) ((mError I F (xs (i + 1)) (xs (i + 2)) (xs (i + 3))).2.2) rw gd gl) H locs := gS.perm h (List.Perm.symm (pmD px_1))
  have hq := la_error (xs (i + 1)) (xs (i + 2)) (xs (i + 3)) hm
  rw [← hwa, ← hwb] at hq
  refine lv_icmp_eq (tgt := 1074) hx hb dL_law_489 (by decide) (fun c_489 => ?_) (fun c_489 => ?_)
  · exact kx (lW G ad md ou ng nw tn nl (if hEok ne (xs (i + 1)) (xs (i + 2)) (xs (i + 3)) = true then ne + 1 else ne) gn nb ns l1 l2 l3 tf l0 lf lt (if hEok ne (xs (i + 1)) (xs (i + 2)) (xs (i + 3)) = true then upd en ne (xs (i + 1)) else en) (if hEok ne (xs (i + 1)) (xs (i + 2)) (xs (i + 3)) = true then upd ef ne (xs (i + 3)) else ef) (if hEok ne (xs (i + 1)) (xs (i + 2)) (xs (i + 3)) = true then upd et ne (nI nw) else et) (if hEok ne (xs (i + 1)) (xs (i + 2)) (xs (i + 3)) = true then upd ep ne (xs (i + 2)) else ep) pr py ld ll lc bd bl sd sl ag z la tk tz lo wt tv D gc td tl fd st ca cs cb cd so bo rf of ((mError I F (xs (i + 1)) (xs (i + 2)) (xs (i + 3))).2.1) ((mError I F (xs (i + 1)) (xs (i + 2)) (xs (i + 3))).2.2) rw gd gl) _ _ _ _ ls ⟨ng, nw, tn, nl, (if hEok ne (xs (i + 1)) (xs (i + 2)) (xs (i + 3)) = true then ne + 1 else ne), gn, nb, ns, l1, l2, l3, tf, l0, lf, lt, (if hEok ne (xs (i + 1)) (xs (i + 2)) (xs (i + 3)) = true then upd en ne (xs (i + 1)) else en), (if hEok ne (xs (i + 1)) (xs (i + 2)) (xs (i + 3)) = true then upd ef ne (xs (i + 3)) else ef), (if hEok ne (xs (i + 1)) (xs (i + 2)) (xs (i + 3)) = true then upd et ne (nI nw) else et), (if hEok ne (xs (i + 1)) (xs (i + 2)) (xs (i + 3)) = true then upd ep ne (xs (i + 2)) else ep), pr, py, ld, ll, lc, bd, bl, sd, sl, ag, z, la, tk, tz, lo, wt, tv, D, gc, td, tl, fd, st, ca, cs, cb, cd, so, bo, rf, of, ((mError I F (xs (i + 1)) (xs (i + 2)) (xs (i + 3))).2.1), ((mError I F (xs (i + 1)) (xs (i + 2)) (xs (i + 3))).2.2), rw, gd, gl, L, rfl, hq.2, by omega, by omega⟩ h (lv_sub hl [0, 1, 2, 3, 4] rfl)
  · exact absurd (hq.1) c_489

set_option maxHeartbeats 4000000 in
set_option maxRecDepth 100000 in
theorem lc_logN {p : Program} {l : Launch} {e : Env} {s : State} {m : MethodId} {args : Array Value} {below : List Frame} {meth : Method} {c : Code} {cells slots : Nat} {Q : State → Prop} {G : gG} {A : Nat → Prop} (C : gC p m c cL_law 8 s args wsL_law RL G A) (ad md : Nat → Nat) (ou b Ls : Nat) (xs : Nat → Int32) (hX : va_X b Ls xs s s.heap) (hbl : b < s.heap.size) (hbA : ¬ A b) (hLs : Ls ≤ 3072) (i j : Nat) (hij : i = 6 * j) (hi6 : i + 6 ≤ Ls) (ng : Nat) (nw : Nat) (tn : Nat) (nl : Nat) (ne : Nat) (gn : Nat) (nb : Nat) (ns : Nat) (l1 : Nat) (l2 : Nat) (l3 : Nat) (tf : Nat → Int32) (l0 : Nat → Int32) (lf : Nat → Int32) (lt : Nat → Int32) (en : Nat → Int32) (ef : Nat → Int32) (et : Nat → Int32) (ep : Nat → Int32) (pr : Nat → Int32) (py : Nat → Int32) (ld : Nat → Int32) (ll : Nat → Int32) (lc : Nat → Int32) (bd : Nat → Int32) (bl : Nat → Int32) (sd : Nat → Int32) (sl : Nat → Int32) (ag : Nat → Int32) (z : RS) (la : Nat → Nat) (tk : Nat → Nat) (tz : Nat → Nat) (lo : Nat → Nat) (wt : Nat → Nat) (tv : Nat → Nat → Int32) (D : Nat → Nat → Int32) (gc : Int32) (td : Int32) (tl : Int32) (fd : Int32) (st : Int32) (ca : Int32) (cs : Int32) (cb : Int32) (cd : Int32) (so : Nat → Option Nat) (bo : Nat → Option Nat) (rf : Nat → Option Nat) (of : Nat → Int64) (I : Nat → Int32) (F : Nat → Nat → Int32) (rw : Nat) (gd : Int64) (gl : Int64) (L : Nat → Nat) (hm : hmR tn tf nl l0 lf lt tz tv ne en ef et ep ng D pr gn gc ld ll lc nw nb ns bd bl sd sl td tl fd st so ca cs cb cd I F L) (hcb : cells ≤ 200 + 10 * j + ltC gn) (hsb : slots ≤ 100000 + 300 * j + ltS gn) (hok : hLok ng (xs (i + 1)) (xs (i + 2)) (xs (i + 3)) (xs (i + 4)) = false) (kx : ∀ (W9 : va_W) (cells slots : Nat) (H : Heap) (locs : List Loc) (ls : Array Slot), lwI G ad md ou (j + 1) W9 cells slots → gS G A s W9 H locs → lv_has ls 8 [(0, .ref b), (1, .ref (ad 0)), (2, .ref (md 0)), (3, .ref ou), (4, .int (nI i))] → W p l e room_1 s m args below meth c H locs cells slots Q (F0 m 1074 ls [])) (H : Heap) (locs : List Loc) (ls : Array Slot) (h : gS G A s (lW G ad md ou ng nw tn nl ne gn nb ns l1 l2 l3 tf l0 lf lt en ef et ep pr py ld ll lc bd bl sd sl ag z la tk tz lo wt tv D gc td tl fd st ca cs cb cd so bo rf of I F rw gd gl) H locs) (hl : lv_has ls 8 [(0, .ref b), (1, .ref (ad 0)), (2, .ref (md 0)), (3, .ref ou), (4, .int (nI i))]) : W p l e room_1 s m args below meth c H locs cells slots Q (F0 m 494 ls []) := by
  have hx := C.1.1.1
  have hb := C.1.1.2.1
  have hlt := lt_b gn
  have hm9 := hm
  obtain ⟨hT, hL, hE, hG, hP, hD, hN, hB, hC⟩ := hm9
  refine lv_aload_n hx hb dL_law_494 rfl (lv_at hl 1 rfl) ?_
  refine lv_aload_n hx hb dL_law_495 rfl (lv_at hl 0 rfl) ?_
  refine lv_iload hx hb dL_law_496 (lv_at hl 4 rfl) ?_
  refine lv_iconst (v := 1) hx hb dL_law_498 (by decide) ?_
  refine lv_iadd hx hb dL_law_499 ?_
  refine lv_cgi (y := nI (i + 1)) (ni_k i 1) ?_
  refine va_sld hx hb hX hbl hbA h.2.2 (i := (nI (i + 1))) (vp_in_nI (by omega) (by omega)) dL_law_500 ?_
  refine lv_cgi (y := xs (i + 1)) (nn_at xs (by omega)) ?_
  refine lv_aload_n hx hb dL_law_501 rfl (lv_at hl 0 rfl) ?_
  refine lv_iload hx hb dL_law_502 (lv_at hl 4 rfl) ?_
  refine lv_iconst (v := 2) hx hb dL_law_504 (by decide) ?_
  refine lv_iadd hx hb dL_law_505 ?_
  refine lv_cgi (y := nI (i + 2)) (ni_k i 2) ?_
  refine va_sld hx hb hX hbl hbA h.2.2 (i := (nI (i + 2))) (vp_in_nI (by omega) (by omega)) dL_law_506 ?_
  refine lv_cgi (y := xs (i + 2)) (nn_at xs (by omega)) ?_
  refine lv_aload_n hx hb dL_law_507 rfl (lv_at hl 0 rfl) ?_
  refine lv_iload hx hb dL_law_508 (lv_at hl 4 rfl) ?_
  refine lv_iconst (v := 3) hx hb dL_law_510 (by decide) ?_
  refine lv_iadd hx hb dL_law_511 ?_
  refine lv_cgi (y := nI (i + 3)) (ni_k i 3) ?_
  refine va_sld hx hb hX hbl hbA h.2.2 (i := (nI (i + 3))) (vp_in_nI (by omega) (by omega)) dL_law_512 ?_
  refine lv_cgi (y := xs (i + 3)) (nn_at xs (by omega)) ?_
  refine lv_aload_n hx hb dL_law_513 rfl (lv_at hl 0 rfl) ?_
  refine lv_iload hx hb dL_law_514 (lv_at hl 4 rfl) ?_
  refine lv_iconst (v := 4) hx hb dL_law_516 (by decide) ?_
  refine lv_iadd hx hb dL_law_517 ?_
  refine lv_cgi (y := nI (i + 4)) (ni_k i 4) ?_
  refine va_sld hx hb hX hbl hbA h.2.2 (i := (nI (i + 4))) (vp_in_nI (by omega) (by omega)) dL_law_518 ?_
  refine lv_cgi (y := xs (i + 4)) (nn_at xs (by omega)) ?_
  have hp := (pmAG px_5 : List.Perm (lW G ad md ou ng nw tn nl ne gn nb ns l1 l2 l3 tf l0 lf lt en ef et ep pr py ld ll lc bd bl sd sl ag z la tk tz lo wt tv D gc td tl fd st ca cs cb cd so bo rf of I F rw gd gl : va_W) _)
  refine k_i C h hp (r_runV C h hp 0 rfl rfl (As := [.int (xs (i + 1)), .int (xs (i + 2)), .int (xs (i + 3)), .int (xs (i + 4))]) (rest := []) (h_logN l G ad ng nw lo D (xs (i + 1)) (xs (i + 2)) (xs (i + 3)) (xs (i + 4)) hG.1 hok) (cwV 4 C.1.1.2.2.2.2 gL_law_X9_log rfl rfl rfl (by decide +kernel) ⟨Nat.le_of_ble_eq_true rfl, Nat.le_of_ble_eq_true rfl⟩) rfl hl.1 (Nat.le_of_ble_eq_true rfl) dL_law_519 ⟨by show _ ≤ 601024; omega, by show _ ≤ 7293033; omega⟩) (fun ra ua H locs hwa h => ?_)
  have h : gS G A s (lW G ad md ou ng nw tn nl ne gn nb ns l1 l2 l3 tf l0 lf lt en ef et ep pr py ld ll lc bd bl sd sl ag z la tk tz lo wt tv D gc td tl fd st ca cs cb cd so bo rf of I F rw gd gl) H locs := gS.perm h (List.Perm.symm (pmAG px_5))
  refine lv_aload_n hx hb dL_law_522 rfl (lv_at hl 2 rfl) ?_
  refine lv_aload_n hx hb dL_law_523 rfl (lv_at hl 0 rfl) ?_
  refine lv_iload hx hb dL_law_524 (lv_at hl 4 rfl) ?_
  refine lv_iconst (v := 1) hx hb dL_law_526 (by decide) ?_
  refine lv_iadd hx hb dL_law_527 ?_
  refine lv_cgi (y := nI (i + 1)) (ni_k i 1) ?_
  refine va_sld hx hb hX hbl hbA h.2.2 (i := (nI (i + 1))) (vp_in_nI (by omega) (by omega)) dL_law_528 ?_
  refine lv_cgi (y := xs (i + 1)) (nn_at xs (by omega)) ?_
  refine lv_aload_n hx hb dL_law_529 rfl (lv_at hl 0 rfl) ?_
  refine lv_iload hx hb dL_law_530 (lv_at hl 4 rfl) ?_
  refine lv_iconst (v := 2) hx hb dL_law_532 (by decide) ?_
  refine lv_iadd hx hb dL_law_533 ?_
  refine lv_cgi (y := nI (i + 2)) (ni_k i 2) ?_
  refine va_sld hx hb hX hbl hbA h.2.2 (i := (nI (i + 2))) (vp_in_nI (by omega) (by omega)) dL_law_534 ?_
  refine lv_cgi (y := xs (i + 2)) (nn_at xs (by omega)) ?_
  refine lv_aload_n hx hb dL_law_535 rfl (lv_at hl 0 rfl) ?_
  refine lv_iload hx hb dL_law_536 (lv_at hl 4 rfl) ?_
  refine lv_iconst (v := 3) hx hb dL_law_538 (by decide) ?_
  refine lv_iadd hx hb dL_law_539 ?_
  refine lv_cgi (y := nI (i + 3)) (ni_k i 3) ?_
  refine va_sld hx hb hX hbl hbA h.2.2 (i := (nI (i + 3))) (vp_in_nI (by omega) (by omega)) dL_law_540 ?_
  refine lv_cgi (y := xs (i + 3)) (nn_at xs (by omega)) ?_
  refine lv_aload_n hx hb dL_law_541 rfl (lv_at hl 0 rfl) ?_
  refine lv_iload hx hb dL_law_542 (lv_at hl 4 rfl) ?_
  refine lv_iconst (v := 4) hx hb dL_law_544 (by decide) ?_
  refine lv_iadd hx hb dL_law_545 ?_
  refine lv_cgi (y := nI (i + 4)) (ni_k i 4) ?_
  refine va_sld hx hb hX hbl hbA h.2.2 (i := (nI (i + 4))) (vp_in_nI (by omega) (by omega)) dL_law_546 ?_
  refine lv_cgi (y := xs (i + 4)) (nn_at xs (by omega)) ?_
  have hp := (pmD px_1 : List.Perm (lW G ad md ou ng nw tn nl ne gn nb ns l1 l2 l3 tf l0 lf lt en ef et ep pr py ld ll lc bd bl sd sl ag z la tk tz lo wt tv D gc td tl fd st ca cs cb cd so bo rf of I F rw gd gl : va_W) _)
  refine k_i C h hp (r_runV C h hp 0 rfl rfl (As := [.int (xs (i + 1)), .int (xs (i + 2)), .int (xs (i + 3)), .int (xs (i + 4))]) (rest := [.int ra]) (m_log l G md I F rw gd gl (xs (i + 1)) (xs (i + 2)) (xs (i + 3)) (xs (i + 4)) ⟨ng, hG.1, hG.2.1⟩) (cwV 4 C.1.1.2.2.2.2 gL_law_X10_log rfl rfl rfl (by decide +kernel) ⟨Nat.le_of_ble_eq_true rfl, Nat.le_of_ble_eq_true rfl⟩) rfl hl.1 (Nat.le_of_ble_eq_true rfl) dL_law_547 ⟨by show _ ≤ 601024; omega, by show _ ≤ 7293033; omega⟩) (fun rb ub H locs hwb h => ?_)
  have h : gS G A s (lW G ad md ou ng nw tn nl ne gn nb ns l1 l2 l3 tf l0 lf lt en ef et ep pr py ld ll lc bd bl sd sl ag z la tk tz lo wt tv D gc td tl fd st ca cs cb cd so bo rf of ((mLog I F (xs (i + 1)) (xs (i + 2)) (xs (i + 3)) (xs (i + 4))).2.1) ((mLog I F (xs (i + 1)) (xs (i + 2)) (xs (i + 3)) (xs (i + 4))).2.2) rw gd gl) H locs := gS.perm h (List.Perm.symm (pmD px_1))
  have hq := la_logN (xs (i + 1)) (xs (i + 2)) (xs (i + 3)) (xs (i + 4)) hok hm
  rw [← hwb] at hq
  rw [← hwa] at hq
  refine lv_icmp_eq (tgt := 1074) hx hb dL_law_550 (by decide) (fun c_550 => ?_) (fun c_550 => ?_)
  · exact kx (lW G ad md ou ng nw tn nl ne gn nb ns l1 l2 l3 tf l0 lf lt en ef et ep pr py ld ll lc bd bl sd sl ag z la tk tz lo wt tv D gc td tl fd st ca cs cb cd so bo rf of ((mLog I F (xs (i + 1)) (xs (i + 2)) (xs (i + 3)) (xs (i + 4))).2.1) ((mLog I F (xs (i + 1)) (xs (i + 2)) (xs (i + 3)) (xs (i + 4))).2.2) rw gd gl) _ _ _ _ ls ⟨ng, nw, tn, nl, ne, gn, nb, ns, l1, l2, l3, tf, l0, lf, lt, en, ef, et, ep, pr, py, ld, ll, lc, bd, bl, sd, sl, ag, z, la, tk, tz, lo, wt, tv, D, gc, td, tl, fd, st, ca, cs, cb, cd, so, bo, rf, of, ((mLog I F (xs (i + 1)) (xs (i + 2)) (xs (i + 3)) (xs (i + 4))).2.1), ((mLog I F (xs (i + 1)) (xs (i + 2)) (xs (i + 3)) (xs (i + 4))).2.2), rw, gd, gl, L, rfl, hq.2, by omega, by omega⟩ h (lv_sub hl [0, 1, 2, 3, 4] rfl)
  · exact absurd (hq.1) c_550

set_option maxHeartbeats 4000000 in
set_option maxRecDepth 100000 in
theorem lc_log {p : Program} {l : Launch} {e : Env} {s : State} {m : MethodId} {args : Array Value} {below : List Frame} {meth : Method} {c : Code} {cells slots : Nat} {Q : State → Prop} {G : gG} {A : Nat → Prop} (C : gC p m c cL_law 8 s args wsL_law RL G A) (ad md : Nat → Nat) (ou b Ls : Nat) (xs : Nat → Int32) (hX : va_X b Ls xs s s.heap) (hbl : b < s.heap.size) (hbA : ¬ A b) (hLs : Ls ≤ 3072) (i j : Nat) (hij : i = 6 * j) (hi6 : i + 6 ≤ Ls) (ng : Nat) (nw : Nat) (tn : Nat) (nl : Nat) (ne : Nat) (gn : Nat) (nb : Nat) (ns : Nat) (l1 : Nat) (l2 : Nat) (l3 : Nat) (tf : Nat → Int32) (l0 : Nat → Int32) (lf : Nat → Int32) (lt : Nat → Int32) (en : Nat → Int32) (ef : Nat → Int32) (et : Nat → Int32) (ep : Nat → Int32) (pr : Nat → Int32) (py : Nat → Int32) (ld : Nat → Int32) (ll : Nat → Int32) (lc : Nat → Int32) (bd : Nat → Int32) (bl : Nat → Int32) (sd : Nat → Int32) (sl : Nat → Int32) (ag : Nat → Int32) (z : RS) (la : Nat → Nat) (tk : Nat → Nat) (tz : Nat → Nat) (lo : Nat → Nat) (wt : Nat → Nat) (tv : Nat → Nat → Int32) (D : Nat → Nat → Int32) (gc : Int32) (td : Int32) (tl : Int32) (fd : Int32) (st : Int32) (ca : Int32) (cs : Int32) (cb : Int32) (cd : Int32) (so : Nat → Option Nat) (bo : Nat → Option Nat) (rf : Nat → Option Nat) (of : Nat → Int64) (I : Nat → Int32) (F : Nat → Nat → Int32) (rw : Nat) (gd : Int64) (gl : Int64) (L : Nat → Nat) (hm : hmR tn tf nl l0 lf lt tz tv ne en ef et ep ng D pr gn gc ld ll lc nw nb ns bd bl sd sl td tl fd st so ca cs cb cd I F L) (hcb : cells ≤ 200 + 10 * j + ltC gn) (hsb : slots ≤ 100000 + 300 * j + ltS gn) (hok : hLok ng (xs (i + 1)) (xs (i + 2)) (xs (i + 3)) (xs (i + 4)) = true) (kx : ∀ (W9 : va_W) (cells slots : Nat) (H : Heap) (locs : List Loc) (ls : Array Slot), lwI G ad md ou (j + 1) W9 cells slots → gS G A s W9 H locs → lv_has ls 8 [(0, .ref b), (1, .ref (ad 0)), (2, .ref (md 0)), (3, .ref ou), (4, .int (nI i))] → W p l e room_1 s m args below meth c H locs cells slots Q (F0 m 1074 ls [])) (H : Heap) (locs : List Loc) (ls : Array Slot) (h : gS G A s (lW G ad md ou ng nw tn nl ne gn nb ns l1 l2 l3 tf l0 lf lt en ef et ep pr py ld ll lc bd bl sd sl ag z la tk tz lo wt tv D gc td tl fd st ca cs cb cd so bo rf of I F rw gd gl) H locs) (hl : lv_has ls 8 [(0, .ref b), (1, .ref (ad 0)), (2, .ref (md 0)), (3, .ref ou), (4, .int (nI i))]) : W p l e room_1 s m args below meth c H locs cells slots Q (F0 m 494 ls []) := by
  have hx := C.1.1.1
  have hb := C.1.1.2.1
  have hlt := lt_b gn
  have hm9 := hm
  obtain ⟨hT, hL, hE, hG, hP, hD, hN, hB, hC⟩ := hm9
  refine lv_aload_n hx hb dL_law_494 rfl (lv_at hl 1 rfl) ?_
  refine lv_aload_n hx hb dL_law_495 rfl (lv_at hl 0 rfl) ?_
  refine lv_iload hx hb dL_law_496 (lv_at hl 4 rfl) ?_
  refine lv_iconst (v := 1) hx hb dL_law_498 (by decide) ?_
  refine lv_iadd hx hb dL_law_499 ?_
  refine lv_cgi (y := nI (i + 1)) (ni_k i 1) ?_
  refine va_sld hx hb hX hbl hbA h.2.2 (i := (nI (i + 1))) (vp_in_nI (by omega) (by omega)) dL_law_500 ?_
  refine lv_cgi (y := xs (i + 1)) (nn_at xs (by omega)) ?_
  refine lv_aload_n hx hb dL_law_501 rfl (lv_at hl 0 rfl) ?_
  refine lv_iload hx hb dL_law_502 (lv_at hl 4 rfl) ?_
  refine lv_iconst (v := 2) hx hb dL_law_504 (by decide) ?_
  refine lv_iadd hx hb dL_law_505 ?_
  refine lv_cgi (y := nI (i + 2)) (ni_k i 2) ?_
  refine va_sld hx hb hX hbl hbA h.2.2 (i := (nI (i + 2))) (vp_in_nI (by omega) (by omega)) dL_law_506 ?_
  refine lv_cgi (y := xs (i + 2)) (nn_at xs (by omega)) ?_
  refine lv_aload_n hx hb dL_law_507 rfl (lv_at hl 0 rfl) ?_
  refine lv_iload hx hb dL_law_508 (lv_at hl 4 rfl) ?_
  refine lv_iconst (v := 3) hx hb dL_law_510 (by decide) ?_
  refine lv_iadd hx hb dL_law_511 ?_
  refine lv_cgi (y := nI (i + 3)) (ni_k i 3) ?_
  refine va_sld hx hb hX hbl hbA h.2.2 (i := (nI (i + 3))) (vp_in_nI (by omega) (by omega)) dL_law_512 ?_
  refine lv_cgi (y := xs (i + 3)) (nn_at xs (by omega)) ?_
  refine lv_aload_n hx hb dL_law_513 rfl (lv_at hl 0 rfl) ?_
  refine lv_iload hx hb dL_law_514 (lv_at hl 4 rfl) ?_
  refine lv_iconst (v := 4) hx hb dL_law_516 (by decide) ?_
  refine lv_iadd hx hb dL_law_517 ?_
  refine lv_cgi (y := nI (i + 4)) (ni_k i 4) ?_
  refine va_sld hx hb hX hbl hbA h.2.2 (i := (nI (i + 4))) (vp_in_nI (by omega) (by omega)) dL_law_518 ?_
  refine lv_cgi (y := xs (i + 4)) (nn_at xs (by omega)) ?_
  have hp := (pmAG px_5 : List.Perm (lW G ad md ou ng nw tn nl ne gn nb ns l1 l2 l3 tf l0 lf lt en ef et ep pr py ld ll lc bd bl sd sl ag z la tk tz lo wt tv D gc td tl fd st ca cs cb cd so bo rf of I F rw gd gl : va_W) _)
  refine k_i C h hp (r_runV C h hp 0 rfl rfl (As := [.int (xs (i + 1)), .int (xs (i + 2)), .int (xs (i + 3)), .int (xs (i + 4))]) (rest := []) (h_log l G ad ng nw lo D (xs (i + 1)) (xs (i + 2)) (xs (i + 3)) (xs (i + 4)) hok) (cwV 4 C.1.1.2.2.2.2 gL_law_X9_log rfl rfl rfl (by decide +kernel) ⟨Nat.le_of_ble_eq_true rfl, Nat.le_of_ble_eq_true rfl⟩) rfl hl.1 (Nat.le_of_ble_eq_true rfl) dL_law_519 ⟨by show _ ≤ 601024; omega, by show _ ≤ 7293033; omega⟩) (fun ra ua H locs hwa h => ?_)
  have h : gS G A s (lW G ad md ou (ng + 1) nw tn nl ne gn nb ns l1 l2 l3 tf l0 lf lt en ef et ep pr py ld ll lc bd bl sd sl ag z la tk tz (va_up lo ng ua) wt tv (lgU D ng (xs (i + 1)) (xs (i + 2)) (xs (i + 3)) (xs (i + 4)) (nI nw)) gc td tl fd st ca cs cb cd so bo rf of I F rw gd gl) H locs := gS.perm h (List.Perm.symm (pmAG px_5))
  refine lv_aload_n hx hb dL_law_522 rfl (lv_at hl 2 rfl) ?_
  refine lv_aload_n hx hb dL_law_523 rfl (lv_at hl 0 rfl) ?_
  refine lv_iload hx hb dL_law_524 (lv_at hl 4 rfl) ?_
  refine lv_iconst (v := 1) hx hb dL_law_526 (by decide) ?_
  refine lv_iadd hx hb dL_law_527 ?_
  refine lv_cgi (y := nI (i + 1)) (ni_k i 1) ?_
  refine va_sld hx hb hX hbl hbA h.2.2 (i := (nI (i + 1))) (vp_in_nI (by omega) (by omega)) dL_law_528 ?_
  refine lv_cgi (y := xs (i + 1)) (nn_at xs (by omega)) ?_
  refine lv_aload_n hx hb dL_law_529 rfl (lv_at hl 0 rfl) ?_
  refine lv_iload hx hb dL_law_530 (lv_at hl 4 rfl) ?_
  refine lv_iconst (v := 2) hx hb dL_law_532 (by decide) ?_
  refine lv_iadd hx hb dL_law_533 ?_
  refine lv_cgi (y := nI (i + 2)) (ni_k i 2) ?_
  refine va_sld hx hb hX hbl hbA h.2.2 (i := (nI (i + 2))) (vp_in_nI (by omega) (by omega)) dL_law_534 ?_
  refine lv_cgi (y := xs (i + 2)) (nn_at xs (by omega)) ?_
  refine lv_aload_n hx hb dL_law_535 rfl (lv_at hl 0 rfl) ?_
  refine lv_iload hx hb dL_law_536 (lv_at hl 4 rfl) ?_
  refine lv_iconst (v := 3) hx hb dL_law_538 (by decide) ?_
  refine lv_iadd hx hb dL_law_539 ?_
  refine lv_cgi (y := nI (i + 3)) (ni_k i 3) ?_
  refine va_sld hx hb hX hbl hbA h.2.2 (i := (nI (i + 3))) (vp_in_nI (by omega) (by omega)) dL_law_540 ?_
  refine lv_cgi (y := xs (i + 3)) (nn_at xs (by omega)) ?_
  refine lv_aload_n hx hb dL_law_541 rfl (lv_at hl 0 rfl) ?_
  refine lv_iload hx hb dL_law_542 (lv_at hl 4 rfl) ?_
  refine lv_iconst (v := 4) hx hb dL_law_544 (by decide) ?_
  refine lv_iadd hx hb dL_law_545 ?_
  refine lv_cgi (y := nI (i + 4)) (ni_k i 4) ?_
  refine va_sld hx hb hX hbl hbA h.2.2 (i := (nI (i + 4))) (vp_in_nI (by omega) (by omega)) dL_law_546 ?_
  refine lv_cgi (y := xs (i + 4)) (nn_at xs (by omega)) ?_
  have hp := (pmD px_1 : List.Perm (lW G ad md ou (ng + 1) nw tn nl ne gn nb ns l1 l2 l3 tf l0 lf lt en ef et ep pr py ld ll lc bd bl sd sl ag z la tk tz (va_up lo ng ua) wt tv (lgU D ng (xs (i + 1)) (xs (i + 2)) (xs (i + 3)) (xs (i + 4)) (nI nw)) gc td tl fd st ca cs cb cd so bo rf of I F rw gd gl : va_W) _)
  refine k_i C h hp (r_runV C h hp 0 rfl rfl (As := [.int (xs (i + 1)), .int (xs (i + 2)), .int (xs (i + 3)), .int (xs (i + 4))]) (rest := [.int ra]) (m_log l G md I F rw gd gl (xs (i + 1)) (xs (i + 2)) (xs (i + 3)) (xs (i + 4)) ⟨ng, hG.1, hG.2.1⟩) (cwV 4 C.1.1.2.2.2.2 gL_law_X10_log rfl rfl rfl (by decide +kernel) ⟨Nat.le_of_ble_eq_true rfl, Nat.le_of_ble_eq_true rfl⟩) rfl hl.1 (Nat.le_of_ble_eq_true rfl) dL_law_547 ⟨by show _ ≤ 601024; omega, by show _ ≤ 7293033; omega⟩) (fun rb ub H locs hwb h => ?_)
  have h : gS G A s (lW G ad md ou (ng + 1) nw tn nl ne gn nb ns l1 l2 l3 tf l0 lf lt en ef et ep pr py ld ll lc bd bl sd sl ag z la tk tz (va_up lo ng ua) wt tv (lgU D ng (xs (i + 1)) (xs (i + 2)) (xs (i + 3)) (xs (i + 4)) (nI nw)) gc td tl fd st ca cs cb cd so bo rf of ((mLog I F (xs (i + 1)) (xs (i + 2)) (xs (i + 3)) (xs (i + 4))).2.1) ((mLog I F (xs (i + 1)) (xs (i + 2)) (xs (i + 3)) (xs (i + 4))).2.2) rw gd gl) H locs := gS.perm h (List.Perm.symm (pmD px_1))
  have hq := la_log (xs (i + 1)) (xs (i + 2)) (xs (i + 3)) (xs (i + 4)) hok hm
  rw [← hwb] at hq
  rw [← hwa] at hq
  refine lv_icmp_eq (tgt := 1074) hx hb dL_law_550 (by decide) (fun c_550 => ?_) (fun c_550 => ?_)
  · exact kx (lW G ad md ou (ng + 1) nw tn nl ne gn nb ns l1 l2 l3 tf l0 lf lt en ef et ep pr py ld ll lc bd bl sd sl ag z la tk tz (va_up lo ng ua) wt tv (lgU D ng (xs (i + 1)) (xs (i + 2)) (xs (i + 3)) (xs (i + 4)) (nI nw)) gc td tl fd st ca cs cb cd so bo rf of ((mLog I F (xs (i + 1)) (xs (i + 2)) (xs (i + 3)) (xs (i + 4))).2.1) ((mLog I F (xs (i + 1)) (xs (i + 2)) (xs (i + 3)) (xs (i + 4))).2.2) rw gd gl) _ _ _ _ ls ⟨(ng + 1), nw, tn, nl, ne, gn, nb, ns, l1, l2, l3, tf, l0, lf, lt, en, ef, et, ep, pr, py, ld, ll, lc, bd, bl, sd, sl, ag, z, la, tk, tz, (va_up lo ng ua), wt, tv, (lgU D ng (xs (i + 1)) (xs (i + 2)) (xs (i + 3)) (xs (i + 4)) (nI nw)), gc, td, tl, fd, st, ca, cs, cb, cd, so, bo, rf, of, ((mLog I F (xs (i + 1)) (xs (i + 2)) (xs (i + 3)) (xs (i + 4))).2.1), ((mLog I F (xs (i + 1)) (xs (i + 2)) (xs (i + 3)) (xs (i + 4))).2.2), rw, gd, gl, L, rfl, hq.2, by omega, by omega⟩ h (lv_sub hl [0, 1, 2, 3, 4] rfl)
  · exact absurd (hq.1) c_550

set_option maxHeartbeats 4000000 in
set_option maxRecDepth 100000 in
theorem lc_defN {p : Program} {l : Launch} {e : Env} {s : State} {m : MethodId} {args : Array Value} {below : List Frame} {meth : Method} {c : Code} {cells slots : Nat} {Q : State → Prop} {G : gG} {A : Nat → Prop} (C : gC p m c cL_law 8 s args wsL_law RL G A) (ad md : Nat → Nat) (ou b Ls : Nat) (xs : Nat → Int32) (hX : va_X b Ls xs s s.heap) (hbl : b < s.heap.size) (hbA : ¬ A b) (hLs : Ls ≤ 3072) (i j : Nat) (hij : i = 6 * j) (hi6 : i + 6 ≤ Ls) (ng : Nat) (nw : Nat) (tn : Nat) (nl : Nat) (ne : Nat) (gn : Nat) (nb : Nat) (ns : Nat) (l1 : Nat) (l2 : Nat) (l3 : Nat) (tf : Nat → Int32) (l0 : Nat → Int32) (lf : Nat → Int32) (lt : Nat → Int32) (en : Nat → Int32) (ef : Nat → Int32) (et : Nat → Int32) (ep : Nat → Int32) (pr : Nat → Int32) (py : Nat → Int32) (ld : Nat → Int32) (ll : Nat → Int32) (lc : Nat → Int32) (bd : Nat → Int32) (bl : Nat → Int32) (sd : Nat → Int32) (sl : Nat → Int32) (ag : Nat → Int32) (z : RS) (la : Nat → Nat) (tk : Nat → Nat) (tz : Nat → Nat) (lo : Nat → Nat) (wt : Nat → Nat) (tv : Nat → Nat → Int32) (D : Nat → Nat → Int32) (gc : Int32) (td : Int32) (tl : Int32) (fd : Int32) (st : Int32) (ca : Int32) (cs : Int32) (cb : Int32) (cd : Int32) (so : Nat → Option Nat) (bo : Nat → Option Nat) (rf : Nat → Option Nat) (of : Nat → Int64) (I : Nat → Int32) (F : Nat → Nat → Int32) (rw : Nat) (gd : Int64) (gl : Int64) (L : Nat → Nat) (hm : hmR tn tf nl l0 lf lt tz tv ne en ef et ep ng D pr gn gc ld ll lc nw nb ns bd bl sd sl td tl fd st so ca cs cb cd I F L) (hcb : cells ≤ 200 + 10 * j + ltC gn) (hsb : slots ≤ 100000 + 300 * j + ltS gn) (hok : hDok ng (xs (i + 1)) (xs (i + 2)) (xs (i + 3)) = false) (kx : ∀ (W9 : va_W) (cells slots : Nat) (H : Heap) (locs : List Loc) (ls : Array Slot), lwI G ad md ou (j + 1) W9 cells slots → gS G A s W9 H locs → lv_has ls 8 [(0, .ref b), (1, .ref (ad 0)), (2, .ref (md 0)), (3, .ref ou), (4, .int (nI i))] → W p l e room_1 s m args below meth c H locs cells slots Q (F0 m 1074 ls [])) (H : Heap) (locs : List Loc) (ls : Array Slot) (h : gS G A s (lW G ad md ou ng nw tn nl ne gn nb ns l1 l2 l3 tf l0 lf lt en ef et ep pr py ld ll lc bd bl sd sl ag z la tk tz lo wt tv D gc td tl fd st ca cs cb cd so bo rf of I F rw gd gl) H locs) (hl : lv_has ls 8 [(0, .ref b), (1, .ref (ad 0)), (2, .ref (md 0)), (3, .ref ou), (4, .int (nI i))]) : W p l e room_1 s m args below meth c H locs cells slots Q (F0 m 555 ls []) := by
  have hx := C.1.1.1
  have hb := C.1.1.2.1
  have hlt := lt_b gn
  have hm9 := hm
  obtain ⟨hT, hL, hE, hG, hP, hD, hN, hB, hC⟩ := hm9
  refine lv_aload_n hx hb dL_law_555 rfl (lv_at hl 1 rfl) ?_
  refine lv_aload_n hx hb dL_law_556 rfl (lv_at hl 0 rfl) ?_
  refine lv_iload hx hb dL_law_557 (lv_at hl 4 rfl) ?_
  refine lv_iconst (v := 1) hx hb dL_law_559 (by decide) ?_
  refine lv_iadd hx hb dL_law_560 ?_
  refine lv_cgi (y := nI (i + 1)) (ni_k i 1) ?_
  refine va_sld hx hb hX hbl hbA h.2.2 (i := (nI (i + 1))) (vp_in_nI (by omega) (by omega)) dL_law_561 ?_
  refine lv_cgi (y := xs (i + 1)) (nn_at xs (by omega)) ?_
  refine lv_aload_n hx hb dL_law_562 rfl (lv_at hl 0 rfl) ?_
  refine lv_iload hx hb dL_law_563 (lv_at hl 4 rfl) ?_
  refine lv_iconst (v := 2) hx hb dL_law_565 (by decide) ?_
  refine lv_iadd hx hb dL_law_566 ?_
  refine lv_cgi (y := nI (i + 2)) (ni_k i 2) ?_
  refine va_sld hx hb hX hbl hbA h.2.2 (i := (nI (i + 2))) (vp_in_nI (by omega) (by omega)) dL_law_567 ?_
  refine lv_cgi (y := xs (i + 2)) (nn_at xs (by omega)) ?_
  refine lv_aload_n hx hb dL_law_568 rfl (lv_at hl 0 rfl) ?_
  refine lv_iload hx hb dL_law_569 (lv_at hl 4 rfl) ?_
  refine lv_iconst (v := 3) hx hb dL_law_571 (by decide) ?_
  refine lv_iadd hx hb dL_law_572 ?_
  refine lv_cgi (y := nI (i + 3)) (ni_k i 3) ?_
  refine va_sld hx hb hX hbl hbA h.2.2 (i := (nI (i + 3))) (vp_in_nI (by omega) (by omega)) dL_law_573 ?_
  refine lv_cgi (y := xs (i + 3)) (nn_at xs (by omega)) ?_
  have hp := (pmAG px_5 : List.Perm (lW G ad md ou ng nw tn nl ne gn nb ns l1 l2 l3 tf l0 lf lt en ef et ep pr py ld ll lc bd bl sd sl ag z la tk tz lo wt tv D gc td tl fd st ca cs cb cd so bo rf of I F rw gd gl : va_W) _)
  refine k_i C h hp (r_runV C h hp 0 rfl rfl (As := [.int (xs (i + 1)), .int (xs (i + 2)), .int (xs (i + 3))]) (rest := []) (h_defN l G ad ng nw lo D (xs (i + 1)) (xs (i + 2)) (xs (i + 3)) hok) (cwV 3 C.1.1.2.2.2.2 gL_law_X9_defects rfl rfl rfl (by decide +kernel) ⟨Nat.le_of_ble_eq_true rfl, Nat.le_of_ble_eq_true rfl⟩) rfl hl.1 (Nat.le_of_ble_eq_true rfl) dL_law_574 ⟨by show _ ≤ 601024; omega, by show _ ≤ 7293033; omega⟩) (fun ra ua H locs hwa h => ?_)
  have h : gS G A s (lW G ad md ou ng nw tn nl ne gn nb ns l1 l2 l3 tf l0 lf lt en ef et ep pr py ld ll lc bd bl sd sl ag z la tk tz lo wt tv D gc td tl fd st ca cs cb cd so bo rf of I F rw gd gl) H locs := gS.perm h (List.Perm.symm (pmAG px_5))
  refine lv_aload_n hx hb dL_law_577 rfl (lv_at hl 2 rfl) ?_
  refine lv_aload_n hx hb dL_law_578 rfl (lv_at hl 0 rfl) ?_
  refine lv_iload hx hb dL_law_579 (lv_at hl 4 rfl) ?_
  refine lv_iconst (v := 1) hx hb dL_law_581 (by decide) ?_
  refine lv_iadd hx hb dL_law_582 ?_
  refine lv_cgi (y := nI (i + 1)) (ni_k i 1) ?_
  refine va_sld hx hb hX hbl hbA h.2.2 (i := (nI (i + 1))) (vp_in_nI (by omega) (by omega)) dL_law_583 ?_
  refine lv_cgi (y := xs (i + 1)) (nn_at xs (by omega)) ?_
  refine lv_aload_n hx hb dL_law_584 rfl (lv_at hl 0 rfl) ?_
  refine lv_iload hx hb dL_law_585 (lv_at hl 4 rfl) ?_
  refine lv_iconst (v := 2) hx hb dL_law_587 (by decide) ?_
  refine lv_iadd hx hb dL_law_588 ?_
  refine lv_cgi (y := nI (i + 2)) (ni_k i 2) ?_
  refine va_sld hx hb hX hbl hbA h.2.2 (i := (nI (i + 2))) (vp_in_nI (by omega) (by omega)) dL_law_589 ?_
  refine lv_cgi (y := xs (i + 2)) (nn_at xs (by omega)) ?_
  refine lv_aload_n hx hb dL_law_590 rfl (lv_at hl 0 rfl) ?_
  refine lv_iload hx hb dL_law_591 (lv_at hl 4 rfl) ?_
  refine lv_iconst (v := 3) hx hb dL_law_593 (by decide) ?_
  refine lv_iadd hx hb dL_law_594 ?_
  refine lv_cgi (y := nI (i + 3)) (ni_k i 3) ?_
  refine va_sld hx hb hX hbl hbA h.2.2 (i := (nI (i + 3))) (vp_in_nI (by omega) (by omega)) dL_law_595 ?_
  refine lv_cgi (y := xs (i + 3)) (nn_at xs (by omega)) ?_
  have hp := (pmD px_1 : List.Perm (lW G ad md ou ng nw tn nl ne gn nb ns l1 l2 l3 tf l0 lf lt en ef et ep pr py ld ll lc bd bl sd sl ag z la tk tz lo wt tv D gc td tl fd st ca cs cb cd so bo rf of I F rw gd gl : va_W) _)
  refine k_i C h hp (r_runV C h hp 0 rfl rfl (As := [.int (xs (i + 1)), .int (xs (i + 2)), .int (xs (i + 3))]) (rest := [.int ra]) (m_defects l G md I F rw gd gl (xs (i + 1)) (xs (i + 2)) (xs (i + 3)) ⟨ng, hG.1, hG.2.1⟩) (cwV 3 C.1.1.2.2.2.2 gL_law_X10_defects rfl rfl rfl (by decide +kernel) ⟨Nat.le_of_ble_eq_true rfl, Nat.le_of_ble_eq_true rfl⟩) rfl hl.1 (Nat.le_of_ble_eq_true rfl) dL_law_596 ⟨by show _ ≤ 601024; omega, by show _ ≤ 7293033; omega⟩) (fun rb ub H locs hwb h => ?_)
  have h : gS G A s (lW G ad md ou ng nw tn nl ne gn nb ns l1 l2 l3 tf l0 lf lt en ef et ep pr py ld ll lc bd bl sd sl ag z la tk tz lo wt tv D gc td tl fd st ca cs cb cd so bo rf of ((mDefects I F (xs (i + 1)) (xs (i + 2)) (xs (i + 3))).2.1) ((mDefects I F (xs (i + 1)) (xs (i + 2)) (xs (i + 3))).2.2) rw gd gl) H locs := gS.perm h (List.Perm.symm (pmD px_1))
  have hq := la_defN (xs (i + 1)) (xs (i + 2)) (xs (i + 3)) hok hm
  rw [← hwb, ← hwa] at hq
  refine lv_icmp_eq (tgt := 1074) hx hb dL_law_599 (by decide) (fun c_599 => ?_) (fun c_599 => ?_)
  · exact kx (lW G ad md ou ng nw tn nl ne gn nb ns l1 l2 l3 tf l0 lf lt en ef et ep pr py ld ll lc bd bl sd sl ag z la tk tz lo wt tv D gc td tl fd st ca cs cb cd so bo rf of ((mDefects I F (xs (i + 1)) (xs (i + 2)) (xs (i + 3))).2.1) ((mDefects I F (xs (i + 1)) (xs (i + 2)) (xs (i + 3))).2.2) rw gd gl) _ _ _ _ ls ⟨ng, nw, tn, nl, ne, gn, nb, ns, l1, l2, l3, tf, l0, lf, lt, en, ef, et, ep, pr, py, ld, ll, lc, bd, bl, sd, sl, ag, z, la, tk, tz, lo, wt, tv, D, gc, td, tl, fd, st, ca, cs, cb, cd, so, bo, rf, of, ((mDefects I F (xs (i + 1)) (xs (i + 2)) (xs (i + 3))).2.1), ((mDefects I F (xs (i + 1)) (xs (i + 2)) (xs (i + 3))).2.2), rw, gd, gl, L, rfl, hq.2, by omega, by omega⟩ h (lv_sub hl [0, 1, 2, 3, 4] rfl)
  · exact absurd (hq.1) c_599

set_option maxHeartbeats 4000000 in
set_option maxRecDepth 100000 in
theorem lc_def {p : Program} {l : Launch} {e : Env} {s : State} {m : MethodId} {args : Array Value} {below : List Frame} {meth : Method} {c : Code} {cells slots : Nat} {Q : State → Prop} {G : gG} {A : Nat → Prop} (C : gC p m c cL_law 8 s args wsL_law RL G A) (ad md : Nat → Nat) (ou b Ls : Nat) (xs : Nat → Int32) (hX : va_X b Ls xs s s.heap) (hbl : b < s.heap.size) (hbA : ¬ A b) (hLs : Ls ≤ 3072) (i j : Nat) (hij : i = 6 * j) (hi6 : i + 6 ≤ Ls) (ng : Nat) (nw : Nat) (tn : Nat) (nl : Nat) (ne : Nat) (gn : Nat) (nb : Nat) (ns : Nat) (l1 : Nat) (l2 : Nat) (l3 : Nat) (tf : Nat → Int32) (l0 : Nat → Int32) (lf : Nat → Int32) (lt : Nat → Int32) (en : Nat → Int32) (ef : Nat → Int32) (et : Nat → Int32) (ep : Nat → Int32) (pr : Nat → Int32) (py : Nat → Int32) (ld : Nat → Int32) (ll : Nat → Int32) (lc : Nat → Int32) (bd : Nat → Int32) (bl : Nat → Int32) (sd : Nat → Int32) (sl : Nat → Int32) (ag : Nat → Int32) (z : RS) (la : Nat → Nat) (tk : Nat → Nat) (tz : Nat → Nat) (lo : Nat → Nat) (wt : Nat → Nat) (tv : Nat → Nat → Int32) (D : Nat → Nat → Int32) (gc : Int32) (td : Int32) (tl : Int32) (fd : Int32) (st : Int32) (ca : Int32) (cs : Int32) (cb : Int32) (cd : Int32) (so : Nat → Option Nat) (bo : Nat → Option Nat) (rf : Nat → Option Nat) (of : Nat → Int64) (I : Nat → Int32) (F : Nat → Nat → Int32) (rw : Nat) (gd : Int64) (gl : Int64) (L : Nat → Nat) (hm : hmR tn tf nl l0 lf lt tz tv ne en ef et ep ng D pr gn gc ld ll lc nw nb ns bd bl sd sl td tl fd st so ca cs cb cd I F L) (hcb : cells ≤ 200 + 10 * j + ltC gn) (hsb : slots ≤ 100000 + 300 * j + ltS gn) (k : Nat) (ek : (xs (i + 1)) = nI k) (hk : k < ng) (hy : ¬ mIn (xs (i + 2)) 0 99 = 0) (hz : ¬ mIn (xs (i + 3)) 0 90 = 0) (kx : ∀ (W9 : va_W) (cells slots : Nat) (H : Heap) (locs : List Loc) (ls : Array Slot), lwI G ad md ou (j + 1) W9 cells slots → gS G A s W9 H locs → lv_has ls 8 [(0, .ref b), (1, .ref (ad 0)), (2, .ref (md 0)), (3, .ref ou), (4, .int (nI i))] → W p l e room_1 s m args below meth c H locs cells slots Q (F0 m 1074 ls [])) (H : Heap) (locs : List Loc) (ls : Array Slot) (h : gS G A s (lW G ad md ou ng nw tn nl ne gn nb ns l1 l2 l3 tf l0 lf lt en ef et ep pr py ld ll lc bd bl sd sl ag z la tk tz lo wt tv D gc td tl fd st ca cs cb cd so bo rf of I F rw gd gl) H locs) (hl : lv_has ls 8 [(0, .ref b), (1, .ref (ad 0)), (2, .ref (md 0)), (3, .ref ou), (4, .int (nI i))]) : W p l e room_1 s m args below meth c H locs cells slots Q (F0 m 555 ls []) := by
  have hx := C.1.1.1
  have hb := C.1.1.2.1
  have hlt := lt_b gn
  have hm9 := hm
  obtain ⟨hT, hL, hE, hG, hP, hD, hN, hB, hC⟩ := hm9
  refine lv_aload_n hx hb dL_law_555 rfl (lv_at hl 1 rfl) ?_
  refine lv_aload_n hx hb dL_law_556 rfl (lv_at hl 0 rfl) ?_
  refine lv_iload hx hb dL_law_557 (lv_at hl 4 rfl) ?_
  refine lv_iconst (v := 1) hx hb dL_law_559 (by decide) ?_
  refine lv_iadd hx hb dL_law_560 ?_
  refine lv_cgi (y := nI (i + 1)) (ni_k i 1) ?_
  refine va_sld hx hb hX hbl hbA h.2.2 (i := (nI (i + 1))) (vp_in_nI (by omega) (by omega)) dL_law_561 ?_
  refine lv_cgi (y := xs (i + 1)) (nn_at xs (by omega)) ?_
  refine lv_cgi (y := (nI k)) (ek) ?_
  refine lv_aload_n hx hb dL_law_562 rfl (lv_at hl 0 rfl) ?_
  refine lv_iload hx hb dL_law_563 (lv_at hl 4 rfl) ?_
  refine lv_iconst (v := 2) hx hb dL_law_565 (by decide) ?_
  refine lv_iadd hx hb dL_law_566 ?_
  refine lv_cgi (y := nI (i + 2)) (ni_k i 2) ?_
  refine va_sld hx hb hX hbl hbA h.2.2 (i := (nI (i + 2))) (vp_in_nI (by omega) (by omega)) dL_law_567 ?_
  refine lv_cgi (y := xs (i + 2)) (nn_at xs (by omega)) ?_
  refine lv_aload_n hx hb dL_law_568 rfl (lv_at hl 0 rfl) ?_
  refine lv_iload hx hb dL_law_569 (lv_at hl 4 rfl) ?_
  refine lv_iconst (v := 3) hx hb dL_law_571 (by decide) ?_
  refine lv_iadd hx hb dL_law_572 ?_
  refine lv_cgi (y := nI (i + 3)) (ni_k i 3) ?_
  refine va_sld hx hb hX hbl hbA h.2.2 (i := (nI (i + 3))) (vp_in_nI (by omega) (by omega)) dL_law_573 ?_
  refine lv_cgi (y := xs (i + 3)) (nn_at xs (by omega)) ?_
  have hp := (pmAG px_5 : List.Perm (lW G ad md ou ng nw tn nl ne gn nb ns l1 l2 l3 tf l0 lf lt en ef et ep pr py ld ll lc bd bl sd sl ag z la tk tz lo wt tv D gc td tl fd st ca cs cb cd so bo rf of I F rw gd gl : va_W) _)
  refine k_i C h hp (r_runV C h hp 0 rfl rfl (As := [.int (nI k), .int (xs (i + 2)), .int (xs (i + 3))]) (rest := []) (h_def l G ad ng nw lo D k (xs (i + 2)) (xs (i + 3)) hk hG.1 hy hz) (cwV 3 C.1.1.2.2.2.2 gL_law_X9_defects rfl rfl rfl (by decide +kernel) ⟨Nat.le_of_ble_eq_true rfl, Nat.le_of_ble_eq_true rfl⟩) rfl hl.1 (Nat.le_of_ble_eq_true rfl) dL_law_574 ⟨by show _ ≤ 601024; omega, by show _ ≤ 7293033; omega⟩) (fun ra ua H locs hwa h => ?_)
  have h : gS G A s (lW G ad md ou ng nw tn nl ne gn nb ns l1 l2 l3 tf l0 lf lt en ef et ep pr py ld ll lc bd bl sd sl ag z la tk tz lo wt tv (va_up (va_up D 5 (upd (D 5) k (xs (i + 2)))) 6 (upd ((va_up D 5 (upd (D 5) k (xs (i + 2)))) 6) k (xs (i + 3)))) gc td tl fd st ca cs cb cd so bo rf of I F rw gd gl) H locs := gS.perm h (List.Perm.symm (pmAG px_5))
  refine lv_aload_n hx hb dL_law_577 rfl (lv_at hl 2 rfl) ?_
  refine lv_aload_n hx hb dL_law_578 rfl (lv_at hl 0 rfl) ?_
  refine lv_iload hx hb dL_law_579 (lv_at hl 4 rfl) ?_
  refine lv_iconst (v := 1) hx hb dL_law_581 (by decide) ?_
  refine lv_iadd hx hb dL_law_582 ?_
  refine lv_cgi (y := nI (i + 1)) (ni_k i 1) ?_
  refine va_sld hx hb hX hbl hbA h.2.2 (i := (nI (i + 1))) (vp_in_nI (by omega) (by omega)) dL_law_583 ?_
  refine lv_cgi (y := xs (i + 1)) (nn_at xs (by omega)) ?_
  refine lv_cgi (y := (nI k)) (ek) ?_
  refine lv_aload_n hx hb dL_law_584 rfl (lv_at hl 0 rfl) ?_
  refine lv_iload hx hb dL_law_585 (lv_at hl 4 rfl) ?_
  refine lv_iconst (v := 2) hx hb dL_law_587 (by decide) ?_
  refine lv_iadd hx hb dL_law_588 ?_
  refine lv_cgi (y := nI (i + 2)) (ni_k i 2) ?_
  refine va_sld hx hb hX hbl hbA h.2.2 (i := (nI (i + 2))) (vp_in_nI (by omega) (by omega)) dL_law_589 ?_
  refine lv_cgi (y := xs (i + 2)) (nn_at xs (by omega)) ?_
  refine lv_aload_n hx hb dL_law_590 rfl (lv_at hl 0 rfl) ?_
  refine lv_iload hx hb dL_law_591 (lv_at hl 4 rfl) ?_
  refine lv_iconst (v := 3) hx hb dL_law_593 (by decide) ?_
  refine lv_iadd hx hb dL_law_594 ?_
  refine lv_cgi (y := nI (i + 3)) (ni_k i 3) ?_
  refine va_sld hx hb hX hbl hbA h.2.2 (i := (nI (i + 3))) (vp_in_nI (by omega) (by omega)) dL_law_595 ?_
  refine lv_cgi (y := xs (i + 3)) (nn_at xs (by omega)) ?_
  have hp := (pmD px_1 : List.Perm (lW G ad md ou ng nw tn nl ne gn nb ns l1 l2 l3 tf l0 lf lt en ef et ep pr py ld ll lc bd bl sd sl ag z la tk tz lo wt tv (va_up (va_up D 5 (upd (D 5) k (xs (i + 2)))) 6 (upd ((va_up D 5 (upd (D 5) k (xs (i + 2)))) 6) k (xs (i + 3)))) gc td tl fd st ca cs cb cd so bo rf of I F rw gd gl : va_W) _)
  refine k_i C h hp (r_runV C h hp 0 rfl rfl (As := [.int (nI k), .int (xs (i + 2)), .int (xs (i + 3))]) (rest := [.int ra]) (m_defects l G md I F rw gd gl (nI k) (xs (i + 2)) (xs (i + 3)) ⟨ng, hG.1, hG.2.1⟩) (cwV 3 C.1.1.2.2.2.2 gL_law_X10_defects rfl rfl rfl (by decide +kernel) ⟨Nat.le_of_ble_eq_true rfl, Nat.le_of_ble_eq_true rfl⟩) rfl hl.1 (Nat.le_of_ble_eq_true rfl) dL_law_596 ⟨by show _ ≤ 601024; omega, by show _ ≤ 7293033; omega⟩) (fun rb ub H locs hwb h => ?_)
  have h : gS G A s (lW G ad md ou ng nw tn nl ne gn nb ns l1 l2 l3 tf l0 lf lt en ef et ep pr py ld ll lc bd bl sd sl ag z la tk tz lo wt tv (va_up (va_up D 5 (upd (D 5) k (xs (i + 2)))) 6 (upd ((va_up D 5 (upd (D 5) k (xs (i + 2)))) 6) k (xs (i + 3)))) gc td tl fd st ca cs cb cd so bo rf of ((mDefects I F (nI k) (xs (i + 2)) (xs (i + 3))).2.1) ((mDefects I F (nI k) (xs (i + 2)) (xs (i + 3))).2.2) rw gd gl) H locs := gS.perm h (List.Perm.symm (pmD px_1))
  have hq := la_def k (xs (i + 2)) (xs (i + 3)) hk hy hz hm
  rw [← hwb, ← hwa] at hq
  refine lv_icmp_eq (tgt := 1074) hx hb dL_law_599 (by decide) (fun c_599 => ?_) (fun c_599 => ?_)
  · exact kx (lW G ad md ou ng nw tn nl ne gn nb ns l1 l2 l3 tf l0 lf lt en ef et ep pr py ld ll lc bd bl sd sl ag z la tk tz lo wt tv (va_up (va_up D 5 (upd (D 5) k (xs (i + 2)))) 6 (upd ((va_up D 5 (upd (D 5) k (xs (i + 2)))) 6) k (xs (i + 3)))) gc td tl fd st ca cs cb cd so bo rf of ((mDefects I F (nI k) (xs (i + 2)) (xs (i + 3))).2.1) ((mDefects I F (nI k) (xs (i + 2)) (xs (i + 3))).2.2) rw gd gl) _ _ _ _ ls ⟨ng, nw, tn, nl, ne, gn, nb, ns, l1, l2, l3, tf, l0, lf, lt, en, ef, et, ep, pr, py, ld, ll, lc, bd, bl, sd, sl, ag, z, la, tk, tz, lo, wt, tv, (va_up (va_up D 5 (upd (D 5) k (xs (i + 2)))) 6 (upd ((va_up D 5 (upd (D 5) k (xs (i + 2)))) 6) k (xs (i + 3)))), gc, td, tl, fd, st, ca, cs, cb, cd, so, bo, rf, of, ((mDefects I F (nI k) (xs (i + 2)) (xs (i + 3))).2.1), ((mDefects I F (nI k) (xs (i + 2)) (xs (i + 3))).2.2), rw, gd, gl, L, rfl, hq.2, by omega, by omega⟩ h (lv_sub hl [0, 1, 2, 3, 4] rfl)
  · exact absurd (hq.1) c_599

set_option maxHeartbeats 4000000 in
set_option maxRecDepth 100000 in
theorem lc_chkN {p : Program} {l : Launch} {e : Env} {s : State} {m : MethodId} {args : Array Value} {below : List Frame} {meth : Method} {c : Code} {cells slots : Nat} {Q : State → Prop} {G : gG} {A : Nat → Prop} (C : gC p m c cL_law 8 s args wsL_law RL G A) (ad md : Nat → Nat) (ou b Ls : Nat) (xs : Nat → Int32) (hX : va_X b Ls xs s s.heap) (hbl : b < s.heap.size) (hbA : ¬ A b) (hLs : Ls ≤ 3072) (i j : Nat) (hij : i = 6 * j) (hi6 : i + 6 ≤ Ls) (ng : Nat) (nw : Nat) (tn : Nat) (nl : Nat) (ne : Nat) (gn : Nat) (nb : Nat) (ns : Nat) (l1 : Nat) (l2 : Nat) (l3 : Nat) (tf : Nat → Int32) (l0 : Nat → Int32) (lf : Nat → Int32) (lt : Nat → Int32) (en : Nat → Int32) (ef : Nat → Int32) (et : Nat → Int32) (ep : Nat → Int32) (pr : Nat → Int32) (py : Nat → Int32) (ld : Nat → Int32) (ll : Nat → Int32) (lc : Nat → Int32) (bd : Nat → Int32) (bl : Nat → Int32) (sd : Nat → Int32) (sl : Nat → Int32) (ag : Nat → Int32) (z : RS) (la : Nat → Nat) (tk : Nat → Nat) (tz : Nat → Nat) (lo : Nat → Nat) (wt : Nat → Nat) (tv : Nat → Nat → Int32) (D : Nat → Nat → Int32) (gc : Int32) (td : Int32) (tl : Int32) (fd : Int32) (st : Int32) (ca : Int32) (cs : Int32) (cb : Int32) (cd : Int32) (so : Nat → Option Nat) (bo : Nat → Option Nat) (rf : Nat → Option Nat) (of : Nat → Int64) (I : Nat → Int32) (F : Nat → Nat → Int32) (rw : Nat) (gd : Int64) (gl : Int64) (L : Nat → Nat) (hm : hmR tn tf nl l0 lf lt tz tv ne en ef et ep ng D pr gn gc ld ll lc nw nb ns bd bl sd sl td tl fd st so ca cs cb cd I F L) (hcb : cells ≤ 200 + 10 * j + ltC gn) (hsb : slots ≤ 100000 + 300 * j + ltS gn) (hok : hCok ng (xs (i + 1)) (xs (i + 2)) = false) (kx : ∀ (W9 : va_W) (cells slots : Nat) (H : Heap) (locs : List Loc) (ls : Array Slot), lwI G ad md ou (j + 1) W9 cells slots → gS G A s W9 H locs → lv_has ls 8 [(0, .ref b), (1, .ref (ad 0)), (2, .ref (md 0)), (3, .ref ou), (4, .int (nI i))] → W p l e room_1 s m args below meth c H locs cells slots Q (F0 m 1074 ls [])) (H : Heap) (locs : List Loc) (ls : Array Slot) (h : gS G A s (lW G ad md ou ng nw tn nl ne gn nb ns l1 l2 l3 tf l0 lf lt en ef et ep pr py ld ll lc bd bl sd sl ag z la tk tz lo wt tv D gc td tl fd st ca cs cb cd so bo rf of I F rw gd gl) H locs) (hl : lv_has ls 8 [(0, .ref b), (1, .ref (ad 0)), (2, .ref (md 0)), (3, .ref ou), (4, .int (nI i))]) : W p l e room_1 s m args below meth c H locs cells slots Q (F0 m 765 ls []) := by
  have hx := C.1.1.1
  have hb := C.1.1.2.1
  have hlt := lt_b gn
  have hm9 := hm
  obtain ⟨hT, hL, hE, hG, hP, hD, hN, hB, hC⟩ := hm9
  refine lv_aload_n hx hb dL_law_765 rfl (lv_at hl 1 rfl) ?_
  refine lv_aload_n hx hb dL_law_766 rfl (lv_at hl 0 rfl) ?_
  refine lv_iload hx hb dL_law_767 (lv_at hl 4 rfl) ?_
  refine lv_iconst (v := 1) hx hb dL_law_769 (by decide) ?_
  refine lv_iadd hx hb dL_law_770 ?_
  refine lv_cgi (y := nI (i + 1)) (ni_k i 1) ?_
  refine va_sld hx hb hX hbl hbA h.2.2 (i := (nI (i + 1))) (vp_in_nI (by omega) (by omega)) dL_law_771 ?_
  refine lv_cgi (y := xs (i + 1)) (nn_at xs (by omega)) ?_
  refine lv_aload_n hx hb dL_law_772 rfl (lv_at hl 0 rfl) ?_
  refine lv_iload hx hb dL_law_773 (lv_at hl 4 rfl) ?_
  refine lv_iconst (v := 2) hx hb dL_law_775 (by decide) ?_
  refine lv_iadd hx hb dL_law_776 ?_
  refine lv_cgi (y := nI (i + 2)) (ni_k i 2) ?_
  refine va_sld hx hb hX hbl hbA h.2.2 (i := (nI (i + 2))) (vp_in_nI (by omega) (by omega)) dL_law_777 ?_
  refine lv_cgi (y := xs (i + 2)) (nn_at xs (by omega)) ?_
  have hp := (pmAG px_5 : List.Perm (lW G ad md ou ng nw tn nl ne gn nb ns l1 l2 l3 tf l0 lf lt en ef et ep pr py ld ll lc bd bl sd sl ag z la tk tz lo wt tv D gc td tl fd st ca cs cb cd so bo rf of I F rw gd gl : va_W) _)
  refine k_i C h hp (r_runV C h hp 0 rfl rfl (As := [.int (xs (i + 1)), .int (xs (i + 2))]) (rest := []) (h_chkN l G ad ng nw lo D (xs (i + 1)) (xs (i + 2)) hok) (cwV 2 C.1.1.2.2.2.2 gL_law_X9_check rfl rfl rfl (by decide +kernel) ⟨Nat.le_of_ble_eq_true rfl, Nat.le_of_ble_eq_true rfl⟩) rfl hl.1 (Nat.le_of_ble_eq_true rfl) dL_law_778 ⟨by show _ ≤ 601024; omega, by show _ ≤ 7293033; omega⟩) (fun ra ua H locs hwa h => ?_)
  have h : gS G A s (lW G ad md ou ng nw tn nl ne gn nb ns l1 l2 l3 tf l0 lf lt en ef et ep pr py ld ll lc bd bl sd sl ag z la tk tz lo wt tv D gc td tl fd st ca cs cb cd so bo rf of I F rw gd gl) H locs := gS.perm h (List.Perm.symm (pmAG px_5))
  refine lv_aload_n hx hb dL_law_781 rfl (lv_at hl 2 rfl) ?_
  refine lv_aload_n hx hb dL_law_782 rfl (lv_at hl 0 rfl) ?_
  refine lv_iload hx hb dL_law_783 (lv_at hl 4 rfl) ?_
  refine lv_iconst (v := 1) hx hb dL_law_785 (by decide) ?_
  refine lv_iadd hx hb dL_law_786 ?_
  refine lv_cgi (y := nI (i + 1)) (ni_k i 1) ?_
  refine va_sld hx hb hX hbl hbA h.2.2 (i := (nI (i + 1))) (vp_in_nI (by omega) (by omega)) dL_law_787 ?_
  refine lv_cgi (y := xs (i + 1)) (nn_at xs (by omega)) ?_
  refine lv_aload_n hx hb dL_law_788 rfl (lv_at hl 0 rfl) ?_
  refine lv_iload hx hb dL_law_789 (lv_at hl 4 rfl) ?_
  refine lv_iconst (v := 2) hx hb dL_law_791 (by decide) ?_
  refine lv_iadd hx hb dL_law_792 ?_
  refine lv_cgi (y := nI (i + 2)) (ni_k i 2) ?_
  refine va_sld hx hb hX hbl hbA h.2.2 (i := (nI (i + 2))) (vp_in_nI (by omega) (by omega)) dL_law_793 ?_
  refine lv_cgi (y := xs (i + 2)) (nn_at xs (by omega)) ?_
  have hp := (pmD px_1 : List.Perm (lW G ad md ou ng nw tn nl ne gn nb ns l1 l2 l3 tf l0 lf lt en ef et ep pr py ld ll lc bd bl sd sl ag z la tk tz lo wt tv D gc td tl fd st ca cs cb cd so bo rf of I F rw gd gl : va_W) _)
  refine k_i C h hp (r_runV C h hp 0 rfl rfl (As := [.int (xs (i + 1)), .int (xs (i + 2))]) (rest := [.int ra]) (m_check l G md I F rw gd gl (xs (i + 1)) (xs (i + 2)) ⟨ng, hG.1, hG.2.1⟩) (cwV 2 C.1.1.2.2.2.2 gL_law_X10_check rfl rfl rfl (by decide +kernel) ⟨Nat.le_of_ble_eq_true rfl, Nat.le_of_ble_eq_true rfl⟩) rfl hl.1 (Nat.le_of_ble_eq_true rfl) dL_law_794 ⟨by show _ ≤ 601024; omega, by show _ ≤ 7293033; omega⟩) (fun rb ub H locs hwb h => ?_)
  have h : gS G A s (lW G ad md ou ng nw tn nl ne gn nb ns l1 l2 l3 tf l0 lf lt en ef et ep pr py ld ll lc bd bl sd sl ag z la tk tz lo wt tv D gc td tl fd st ca cs cb cd so bo rf of ((mCheck I F (xs (i + 1)) (xs (i + 2))).2.1) ((mCheck I F (xs (i + 1)) (xs (i + 2))).2.2) rw gd gl) H locs := gS.perm h (List.Perm.symm (pmD px_1))
  have hq := la_chkN (xs (i + 1)) (xs (i + 2)) hok hm
  rw [← hwb, ← hwa] at hq
  refine lv_icmp_eq (tgt := 1074) hx hb dL_law_797 (by decide) (fun c_797 => ?_) (fun c_797 => ?_)
  · exact kx (lW G ad md ou ng nw tn nl ne gn nb ns l1 l2 l3 tf l0 lf lt en ef et ep pr py ld ll lc bd bl sd sl ag z la tk tz lo wt tv D gc td tl fd st ca cs cb cd so bo rf of ((mCheck I F (xs (i + 1)) (xs (i + 2))).2.1) ((mCheck I F (xs (i + 1)) (xs (i + 2))).2.2) rw gd gl) _ _ _ _ ls ⟨ng, nw, tn, nl, ne, gn, nb, ns, l1, l2, l3, tf, l0, lf, lt, en, ef, et, ep, pr, py, ld, ll, lc, bd, bl, sd, sl, ag, z, la, tk, tz, lo, wt, tv, D, gc, td, tl, fd, st, ca, cs, cb, cd, so, bo, rf, of, ((mCheck I F (xs (i + 1)) (xs (i + 2))).2.1), ((mCheck I F (xs (i + 1)) (xs (i + 2))).2.2), rw, gd, gl, L, rfl, hq.2, by omega, by omega⟩ h (lv_sub hl [0, 1, 2, 3, 4] rfl)
  · exact absurd (hq.1) c_797

set_option maxHeartbeats 4000000 in
set_option maxRecDepth 100000 in
theorem lc_chk {p : Program} {l : Launch} {e : Env} {s : State} {m : MethodId} {args : Array Value} {below : List Frame} {meth : Method} {c : Code} {cells slots : Nat} {Q : State → Prop} {G : gG} {A : Nat → Prop} (C : gC p m c cL_law 8 s args wsL_law RL G A) (ad md : Nat → Nat) (ou b Ls : Nat) (xs : Nat → Int32) (hX : va_X b Ls xs s s.heap) (hbl : b < s.heap.size) (hbA : ¬ A b) (hLs : Ls ≤ 3072) (i j : Nat) (hij : i = 6 * j) (hi6 : i + 6 ≤ Ls) (ng : Nat) (nw : Nat) (tn : Nat) (nl : Nat) (ne : Nat) (gn : Nat) (nb : Nat) (ns : Nat) (l1 : Nat) (l2 : Nat) (l3 : Nat) (tf : Nat → Int32) (l0 : Nat → Int32) (lf : Nat → Int32) (lt : Nat → Int32) (en : Nat → Int32) (ef : Nat → Int32) (et : Nat → Int32) (ep : Nat → Int32) (pr : Nat → Int32) (py : Nat → Int32) (ld : Nat → Int32) (ll : Nat → Int32) (lc : Nat → Int32) (bd : Nat → Int32) (bl : Nat → Int32) (sd : Nat → Int32) (sl : Nat → Int32) (ag : Nat → Int32) (z : RS) (la : Nat → Nat) (tk : Nat → Nat) (tz : Nat → Nat) (lo : Nat → Nat) (wt : Nat → Nat) (tv : Nat → Nat → Int32) (D : Nat → Nat → Int32) (gc : Int32) (td : Int32) (tl : Int32) (fd : Int32) (st : Int32) (ca : Int32) (cs : Int32) (cb : Int32) (cd : Int32) (so : Nat → Option Nat) (bo : Nat → Option Nat) (rf : Nat → Option Nat) (of : Nat → Int64) (I : Nat → Int32) (F : Nat → Nat → Int32) (rw : Nat) (gd : Int64) (gl : Int64) (L : Nat → Nat) (hm : hmR tn tf nl l0 lf lt tz tv ne en ef et ep ng D pr gn gc ld ll lc nw nb ns bd bl sd sl td tl fd st so ca cs cb cd I F L) (hcb : cells ≤ 200 + 10 * j + ltC gn) (hsb : slots ≤ 100000 + 300 * j + ltS gn) (k : Nat) (ek : (xs (i + 1)) = nI k) (hk : k < ng) (hy : ¬ mIn (xs (i + 2)) 1 99 = 0) (kx : ∀ (W9 : va_W) (cells slots : Nat) (H : Heap) (locs : List Loc) (ls : Array Slot), lwI G ad md ou (j + 1) W9 cells slots → gS G A s W9 H locs → lv_has ls 8 [(0, .ref b), (1, .ref (ad 0)), (2, .ref (md 0)), (3, .ref ou), (4, .int (nI i))] → W p l e room_1 s m args below meth c H locs cells slots Q (F0 m 1074 ls [])) (H : Heap) (locs : List Loc) (ls : Array Slot) (h : gS G A s (lW G ad md ou ng nw tn nl ne gn nb ns l1 l2 l3 tf l0 lf lt en ef et ep pr py ld ll lc bd bl sd sl ag z la tk tz lo wt tv D gc td tl fd st ca cs cb cd so bo rf of I F rw gd gl) H locs) (hl : lv_has ls 8 [(0, .ref b), (1, .ref (ad 0)), (2, .ref (md 0)), (3, .ref ou), (4, .int (nI i))]) : W p l e room_1 s m args below meth c H locs cells slots Q (F0 m 765 ls []) := by
  have hx := C.1.1.1
  have hb := C.1.1.2.1
  have hlt := lt_b gn
  have hm9 := hm
  obtain ⟨hT, hL, hE, hG, hP, hD, hN, hB, hC⟩ := hm9
  refine lv_aload_n hx hb dL_law_765 rfl (lv_at hl 1 rfl) ?_
  refine lv_aload_n hx hb dL_law_766 rfl (lv_at hl 0 rfl) ?_
  refine lv_iload hx hb dL_law_767 (lv_at hl 4 rfl) ?_
  refine lv_iconst (v := 1) hx hb dL_law_769 (by decide) ?_
  refine lv_iadd hx hb dL_law_770 ?_
  refine lv_cgi (y := nI (i + 1)) (ni_k i 1) ?_
  refine va_sld hx hb hX hbl hbA h.2.2 (i := (nI (i + 1))) (vp_in_nI (by omega) (by omega)) dL_law_771 ?_
  refine lv_cgi (y := xs (i + 1)) (nn_at xs (by omega)) ?_
  refine lv_cgi (y := (nI k)) (ek) ?_
  refine lv_aload_n hx hb dL_law_772 rfl (lv_at hl 0 rfl) ?_
  refine lv_iload hx hb dL_law_773 (lv_at hl 4 rfl) ?_
  refine lv_iconst (v := 2) hx hb dL_law_775 (by decide) ?_
  refine lv_iadd hx hb dL_law_776 ?_
  refine lv_cgi (y := nI (i + 2)) (ni_k i 2) ?_
  refine va_sld hx hb hX hbl hbA h.2.2 (i := (nI (i + 2))) (vp_in_nI (by omega) (by omega)) dL_law_777 ?_
  refine lv_cgi (y := xs (i + 2)) (nn_at xs (by omega)) ?_
  have hp := (pmAG px_5 : List.Perm (lW G ad md ou ng nw tn nl ne gn nb ns l1 l2 l3 tf l0 lf lt en ef et ep pr py ld ll lc bd bl sd sl ag z la tk tz lo wt tv D gc td tl fd st ca cs cb cd so bo rf of I F rw gd gl : va_W) _)
  refine k_i C h hp (r_runV C h hp 0 rfl rfl (As := [.int (nI k), .int (xs (i + 2))]) (rest := []) (h_chk l G ad ng nw lo D k (xs (i + 2)) hk hG.1 hy) (cwV 2 C.1.1.2.2.2.2 gL_law_X9_check rfl rfl rfl (by decide +kernel) ⟨Nat.le_of_ble_eq_true rfl, Nat.le_of_ble_eq_true rfl⟩) rfl hl.1 (Nat.le_of_ble_eq_true rfl) dL_law_778 ⟨by show _ ≤ 601024; omega, by show _ ≤ 7293033; omega⟩) (fun ra ua H locs hwa h => ?_)
  have h : gS G A s (lW G ad md ou ng nw tn nl ne gn nb ns l1 l2 l3 tf l0 lf lt en ef et ep pr py ld ll lc bd bl sd sl ag z la tk tz lo wt tv (va_up D 7 (upd (D 7) k (xs (i + 2)))) gc td tl fd st ca cs cb cd so bo rf of I F rw gd gl) H locs := gS.perm h (List.Perm.symm (pmAG px_5))
  refine lv_aload_n hx hb dL_law_781 rfl (lv_at hl 2 rfl) ?_
  refine lv_aload_n hx hb dL_law_782 rfl (lv_at hl 0 rfl) ?_
  refine lv_iload hx hb dL_law_783 (lv_at hl 4 rfl) ?_
  refine lv_iconst (v := 1) hx hb dL_law_785 (by decide) ?_
  refine lv_iadd hx hb dL_law_786 ?_
  refine lv_cgi (y := nI (i + 1)) (ni_k i 1) ?_
  refine va_sld hx hb hX hbl hbA h.2.2 (i := (nI (i + 1))) (vp_in_nI (by omega) (by omega)) dL_law_787 ?_
  refine lv_cgi (y := xs (i + 1)) (nn_at xs (by omega)) ?_
  refine lv_cgi (y := (nI k)) (ek) ?_
  refine lv_aload_n hx hb dL_law_788 rfl (lv_at hl 0 rfl) ?_
  refine lv_iload hx hb dL_law_789 (lv_at hl 4 rfl) ?_
  refine lv_iconst (v := 2) hx hb dL_law_791 (by decide) ?_
  refine lv_iadd hx hb dL_law_792 ?_
  refine lv_cgi (y := nI (i + 2)) (ni_k i 2) ?_
  refine va_sld hx hb hX hbl hbA h.2.2 (i := (nI (i + 2))) (vp_in_nI (by omega) (by omega)) dL_law_793 ?_
  refine lv_cgi (y := xs (i + 2)) (nn_at xs (by omega)) ?_
  have hp := (pmD px_1 : List.Perm (lW G ad md ou ng nw tn nl ne gn nb ns l1 l2 l3 tf l0 lf lt en ef et ep pr py ld ll lc bd bl sd sl ag z la tk tz lo wt tv (va_up D 7 (upd (D 7) k (xs (i + 2)))) gc td tl fd st ca cs cb cd so bo rf of I F rw gd gl : va_W) _)
  refine k_i C h hp (r_runV C h hp 0 rfl rfl (As := [.int (nI k), .int (xs (i + 2))]) (rest := [.int ra]) (m_check l G md I F rw gd gl (nI k) (xs (i + 2)) ⟨ng, hG.1, hG.2.1⟩) (cwV 2 C.1.1.2.2.2.2 gL_law_X10_check rfl rfl rfl (by decide +kernel) ⟨Nat.le_of_ble_eq_true rfl, Nat.le_of_ble_eq_true rfl⟩) rfl hl.1 (Nat.le_of_ble_eq_true rfl) dL_law_794 ⟨by show _ ≤ 601024; omega, by show _ ≤ 7293033; omega⟩) (fun rb ub H locs hwb h => ?_)
  have h : gS G A s (lW G ad md ou ng nw tn nl ne gn nb ns l1 l2 l3 tf l0 lf lt en ef et ep pr py ld ll lc bd bl sd sl ag z la tk tz lo wt tv (va_up D 7 (upd (D 7) k (xs (i + 2)))) gc td tl fd st ca cs cb cd so bo rf of ((mCheck I F (nI k) (xs (i + 2))).2.1) ((mCheck I F (nI k) (xs (i + 2))).2.2) rw gd gl) H locs := gS.perm h (List.Perm.symm (pmD px_1))
  have hq := la_chk k (xs (i + 2)) hk hy hm
  rw [← hwb, ← hwa] at hq
  refine lv_icmp_eq (tgt := 1074) hx hb dL_law_797 (by decide) (fun c_797 => ?_) (fun c_797 => ?_)
  · exact kx (lW G ad md ou ng nw tn nl ne gn nb ns l1 l2 l3 tf l0 lf lt en ef et ep pr py ld ll lc bd bl sd sl ag z la tk tz lo wt tv (va_up D 7 (upd (D 7) k (xs (i + 2)))) gc td tl fd st ca cs cb cd so bo rf of ((mCheck I F (nI k) (xs (i + 2))).2.1) ((mCheck I F (nI k) (xs (i + 2))).2.2) rw gd gl) _ _ _ _ ls ⟨ng, nw, tn, nl, ne, gn, nb, ns, l1, l2, l3, tf, l0, lf, lt, en, ef, et, ep, pr, py, ld, ll, lc, bd, bl, sd, sl, ag, z, la, tk, tz, lo, wt, tv, (va_up D 7 (upd (D 7) k (xs (i + 2)))), gc, td, tl, fd, st, ca, cs, cb, cd, so, bo, rf, of, ((mCheck I F (nI k) (xs (i + 2))).2.1), ((mCheck I F (nI k) (xs (i + 2))).2.2), rw, gd, gl, L, rfl, hq.2, by omega, by omega⟩ h (lv_sub hl [0, 1, 2, 3, 4] rfl)
  · exact absurd (hq.1) c_797
