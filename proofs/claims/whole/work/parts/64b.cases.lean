set_option maxHeartbeats 4000000 in
set_option maxRecDepth 100000 in
theorem lc_scaleN {p : Program} {l : Launch} {e : Env} {s : State} {m : MethodId} {args : Array Value} {below : List Frame} {meth : Method} {c : Code} {cells slots : Nat} {Q : State → Prop} {G : gG} {A : Nat → Prop} (C : gC p m c cL_law 8 s args wsL_law RL G A) (ad md : Nat → Nat) (ou b Ls : Nat) (xs : Nat → Int32) (hX : va_X b Ls xs s s.heap) (hbl : b < s.heap.size) (hbA : ¬ A b) (hLs : Ls ≤ 3072) (i j : Nat) (hij : i = 6 * j) (hi6 : i + 6 ≤ Ls) (ng : Nat) (nw : Nat) (tn : Nat) (nl : Nat) (ne : Nat) (gn : Nat) (nb : Nat) (ns : Nat) (l1 : Nat) (l2 : Nat) (l3 : Nat) (tf : Nat → Int32) (l0 : Nat → Int32) (lf : Nat → Int32) (lt : Nat → Int32) (en : Nat → Int32) (ef : Nat → Int32) (et : Nat → Int32) (ep : Nat → Int32) (pr : Nat → Int32) (py : Nat → Int32) (ld : Nat → Int32) (ll : Nat → Int32) (lc : Nat → Int32) (bd : Nat → Int32) (bl : Nat → Int32) (sd : Nat → Int32) (sl : Nat → Int32) (ag : Nat → Int32) (z : RS) (la : Nat → Nat) (tk : Nat → Nat) (tz : Nat → Nat) (lo : Nat → Nat) (wt : Nat → Nat) (tv : Nat → Nat → Int32) (D : Nat → Nat → Int32) (gc : Int32) (td : Int32) (tl : Int32) (fd : Int32) (st : Int32) (ca : Int32) (cs : Int32) (cb : Int32) (cd : Int32) (so : Nat → Option Nat) (bo : Nat → Option Nat) (rf : Nat → Option Nat) (of : Nat → Int64) (I : Nat → Int32) (F : Nat → Nat → Int32) (rw : Nat) (gd : Int64) (gl : Int64) (L : Nat → Nat) (hm : hmR tn tf nl l0 lf lt tz tv ne en ef et ep ng D pr gn gc ld ll lc nw nb ns bd bl sd sl td tl fd st so ca cs cb cd I F L) (hcb : cells ≤ 200 + 10 * j + ltC gn) (hsb : slots ≤ 100000 + 300 * j + ltS gn) (hok : mIn (xs (i + 1)) 0 (nI ng - 1) = 0 ∨ mIn (xs (i + 2)) 0 (nI nw) = 0) (kx : ∀ (W9 : va_W) (cells slots : Nat) (H : Heap) (locs : List Loc) (ls : Array Slot), lwI G ad md ou (j + 1) W9 cells slots → gS G A s W9 H locs → lv_has ls 8 [(0, .ref b), (1, .ref (ad 0)), (2, .ref (md 0)), (3, .ref ou), (4, .int (nI i))] → W p l e room_1 s m args below meth c H locs cells slots Q (F0 m 1074 ls [])) (H : Heap) (locs : List Loc) (ls : Array Slot) (h : gS G A s (lW G ad md ou ng nw tn nl ne gn nb ns l1 l2 l3 tf l0 lf lt en ef et ep pr py ld ll lc bd bl sd sl ag z la tk tz lo wt tv D gc td tl fd st ca cs cb cd so bo rf of I F rw gd gl) H locs) (hl : lv_has ls 8 [(0, .ref b), (1, .ref (ad 0)), (2, .ref (md 0)), (3, .ref ou), (4, .int (nI i))]) : W p l e room_1 s m args below meth c H locs cells slots Q (F0 m 604 ls []) := by
  have hx := C.1.1.1
  have hb := C.1.1.2.1
  have hlt := lt_b gn
  have hm9 := hm
  obtain ⟨hT, hL, hE, hG, hP, hD, hN, hB, hC⟩ := hm9
  refine lv_aload_n hx hb dL_law_604 rfl (lv_at hl 1 rfl) ?_
  refine lv_aload_n hx hb dL_law_605 rfl (lv_at hl 0 rfl) ?_
  refine lv_iload hx hb dL_law_606 (lv_at hl 4 rfl) ?_
  refine lv_iconst (v := 1) hx hb dL_law_608 (by decide) ?_
  refine lv_iadd hx hb dL_law_609 ?_
  refine lv_cgi (y := nI (i + 1)) (ni_k i 1) ?_
  refine va_sld hx hb hX hbl hbA h.2.2 (i := (nI (i + 1))) (vp_in_nI (by omega) (by omega)) dL_law_610 ?_
  refine lv_cgi (y := xs (i + 1)) (nn_at xs (by omega)) ?_
  refine lv_aload_n hx hb dL_law_611 rfl (lv_at hl 0 rfl) ?_
  refine lv_iload hx hb dL_law_612 (lv_at hl 4 rfl) ?_
  refine lv_iconst (v := 2) hx hb dL_law_614 (by decide) ?_
  refine lv_iadd hx hb dL_law_615 ?_
  refine lv_cgi (y := nI (i + 2)) (ni_k i 2) ?_
  refine va_sld hx hb hX hbl hbA h.2.2 (i := (nI (i + 2))) (vp_in_nI (by omega) (by omega)) dL_law_616 ?_
  refine lv_cgi (y := xs (i + 2)) (nn_at xs (by omega)) ?_
  have hp := (pmD px_6 : List.Perm (lW G ad md ou ng nw tn nl ne gn nb ns l1 l2 l3 tf l0 lf lt en ef et ep pr py ld ll lc bd bl sd sl ag z la tk tz lo wt tv D gc td tl fd st ca cs cb cd so bo rf of I F rw gd gl : va_W) _)
  refine k_i C h hp (r_runV C h hp 0 rfl rfl (As := [.int (xs (i + 1)), .int (xs (i + 2))]) (rest := []) (h_scaleN l G ad ng nw (xs (i + 1)) (xs (i + 2)) hok) (cwV 2 C.1.1.2.2.2.2 gL_law_X9_scale rfl rfl rfl (by decide +kernel) ⟨Nat.le_of_ble_eq_true rfl, Nat.le_of_ble_eq_true rfl⟩) rfl hl.1 (Nat.le_of_ble_eq_true rfl) dL_law_617 ⟨by show _ ≤ 601024; omega, by show _ ≤ 7293033; omega⟩) (fun ra ua H locs hwa h => ?_)
  have h : gS G A s (lW G ad md ou ng nw tn nl ne gn nb ns l1 l2 l3 tf l0 lf lt en ef et ep pr py ld ll lc bd bl sd sl ag z la tk tz lo wt tv D gc td tl fd st ca cs cb cd so bo rf of I F rw gd gl) H locs := gS.perm h (List.Perm.symm (pmD px_6))
  refine lv_aload_n hx hb dL_law_620 rfl (lv_at hl 2 rfl) ?_
  refine lv_aload_n hx hb dL_law_621 rfl (lv_at hl 0 rfl) ?_
  refine lv_iload hx hb dL_law_622 (lv_at hl 4 rfl) ?_
  refine lv_iconst (v := 1) hx hb dL_law_624 (by decide) ?_
  refine lv_iadd hx hb dL_law_625 ?_
  refine lv_cgi (y := nI (i + 1)) (ni_k i 1) ?_
  refine va_sld hx hb hX hbl hbA h.2.2 (i := (nI (i + 1))) (vp_in_nI (by omega) (by omega)) dL_law_626 ?_
  refine lv_cgi (y := xs (i + 1)) (nn_at xs (by omega)) ?_
  refine lv_aload_n hx hb dL_law_627 rfl (lv_at hl 0 rfl) ?_
  refine lv_iload hx hb dL_law_628 (lv_at hl 4 rfl) ?_
  refine lv_iconst (v := 2) hx hb dL_law_630 (by decide) ?_
  refine lv_iadd hx hb dL_law_631 ?_
  refine lv_cgi (y := nI (i + 2)) (ni_k i 2) ?_
  refine va_sld hx hb hX hbl hbA h.2.2 (i := (nI (i + 2))) (vp_in_nI (by omega) (by omega)) dL_law_632 ?_
  refine lv_cgi (y := xs (i + 2)) (nn_at xs (by omega)) ?_
  have hp := (pmD px_1 : List.Perm (lW G ad md ou ng nw tn nl ne gn nb ns l1 l2 l3 tf l0 lf lt en ef et ep pr py ld ll lc bd bl sd sl ag z la tk tz lo wt tv D gc td tl fd st ca cs cb cd so bo rf of I F rw gd gl : va_W) _)
  refine k_i C h hp (r_runV C h hp 0 rfl rfl (As := [.int (xs (i + 1)), .int (xs (i + 2))]) (rest := [.int ra]) (m_scale l G md I F rw gd gl nl ne L (rL_gd hL hE) ng hG.2.1 hG.1 (xs (i + 1)) (xs (i + 2))) (cwV 2 C.1.1.2.2.2.2 gL_law_X10_scale rfl rfl rfl (by decide +kernel) ⟨Nat.le_of_ble_eq_true rfl, Nat.le_of_ble_eq_true rfl⟩) rfl hl.1 (Nat.le_of_ble_eq_true rfl) dL_law_633 ⟨by show _ ≤ 601024; omega, by show _ ≤ 7293033; omega⟩) (fun rb ub H locs hwb h => ?_)
  have h : gS G A s (lW G ad md ou ng nw tn nl ne gn nb ns l1 l2 l3 tf l0 lf lt en ef et ep pr py ld ll lc bd bl sd sl ag z la tk tz lo wt tv D gc td tl fd st ca cs cb cd so bo rf of ub.1 F ub.2.1 ub.2.2.1 ub.2.2.2) H locs := gS.perm h (List.Perm.symm (pmD px_1))
  have hq : ra = rb := by rw [hwa, hwb.1]; exact la_scaleN (xs (i + 1)) (xs (i + 2)) hok hm
  refine lv_icmp_eq (tgt := 1074) hx hb dL_law_636 (by decide) (fun c_636 => ?_) (fun c_636 => ?_)
  · exact kx (lW G ad md ou ng nw tn nl ne gn nb ns l1 l2 l3 tf l0 lf lt en ef et ep pr py ld ll lc bd bl sd sl ag z la tk tz lo wt tv D gc td tl fd st ca cs cb cd so bo rf of ub.1 F ub.2.1 ub.2.2.1 ub.2.2.2) _ _ _ _ ls ⟨ng, nw, tn, nl, ne, gn, nb, ns, l1, l2, l3, tf, l0, lf, lt, en, ef, et, ep, pr, py, ld, ll, lc, bd, bl, sd, sl, ag, z, la, tk, tz, lo, wt, tv, D, gc, td, tl, fd, st, ca, cs, cb, cd, so, bo, rf, of, ub.1, F, ub.2.1, ub.2.2.1, ub.2.2.2, L, rfl, (hm_jm (jm_th hwb.2) hm), by omega, by omega⟩ h (lv_sub hl [0, 1, 2, 3, 4] rfl)
  · exact absurd (hq) c_636

set_option maxHeartbeats 4000000 in
set_option maxRecDepth 100000 in
theorem lc_scale {p : Program} {l : Launch} {e : Env} {s : State} {m : MethodId} {args : Array Value} {below : List Frame} {meth : Method} {c : Code} {cells slots : Nat} {Q : State → Prop} {G : gG} {A : Nat → Prop} (C : gC p m c cL_law 8 s args wsL_law RL G A) (ad md : Nat → Nat) (ou b Ls : Nat) (xs : Nat → Int32) (hX : va_X b Ls xs s s.heap) (hbl : b < s.heap.size) (hbA : ¬ A b) (hLs : Ls ≤ 3072) (i j : Nat) (hij : i = 6 * j) (hi6 : i + 6 ≤ Ls) (ng : Nat) (nw : Nat) (tn : Nat) (nl : Nat) (ne : Nat) (gn : Nat) (nb : Nat) (ns : Nat) (l1 : Nat) (l2 : Nat) (l3 : Nat) (tf : Nat → Int32) (l0 : Nat → Int32) (lf : Nat → Int32) (lt : Nat → Int32) (en : Nat → Int32) (ef : Nat → Int32) (et : Nat → Int32) (ep : Nat → Int32) (pr : Nat → Int32) (py : Nat → Int32) (ld : Nat → Int32) (ll : Nat → Int32) (lc : Nat → Int32) (bd : Nat → Int32) (bl : Nat → Int32) (sd : Nat → Int32) (sl : Nat → Int32) (ag : Nat → Int32) (z : RS) (la : Nat → Nat) (tk : Nat → Nat) (tz : Nat → Nat) (lo : Nat → Nat) (wt : Nat → Nat) (tv : Nat → Nat → Int32) (D : Nat → Nat → Int32) (gc : Int32) (td : Int32) (tl : Int32) (fd : Int32) (st : Int32) (ca : Int32) (cs : Int32) (cb : Int32) (cd : Int32) (so : Nat → Option Nat) (bo : Nat → Option Nat) (rf : Nat → Option Nat) (of : Nat → Int64) (I : Nat → Int32) (F : Nat → Nat → Int32) (rw : Nat) (gd : Int64) (gl : Int64) (L : Nat → Nat) (hm : hmR tn tf nl l0 lf lt tz tv ne en ef et ep ng D pr gn gc ld ll lc nw nb ns bd bl sd sl td tl fd st so ca cs cb cd I F L) (hcb : cells ≤ 200 + 10 * j + ltC gn) (hsb : slots ≤ 100000 + 300 * j + ltS gn) (k : Nat) (ek : (xs (i + 1)) = nI k) (hk : k < ng) (hq9 : ¬ mIn (xs (i + 2)) 0 (nI nw) = 0) (kx : ∀ (W9 : va_W) (cells slots : Nat) (H : Heap) (locs : List Loc) (ls : Array Slot), lwI G ad md ou (j + 1) W9 cells slots → gS G A s W9 H locs → lv_has ls 8 [(0, .ref b), (1, .ref (ad 0)), (2, .ref (md 0)), (3, .ref ou), (4, .int (nI i))] → W p l e room_1 s m args below meth c H locs cells slots Q (F0 m 1074 ls [])) (H : Heap) (locs : List Loc) (ls : Array Slot) (h : gS G A s (lW G ad md ou ng nw tn nl ne gn nb ns l1 l2 l3 tf l0 lf lt en ef et ep pr py ld ll lc bd bl sd sl ag z la tk tz lo wt tv D gc td tl fd st ca cs cb cd so bo rf of I F rw gd gl) H locs) (hl : lv_has ls 8 [(0, .ref b), (1, .ref (ad 0)), (2, .ref (md 0)), (3, .ref ou), (4, .int (nI i))]) : W p l e room_1 s m args below meth c H locs cells slots Q (F0 m 604 ls []) := by
  have hx := C.1.1.1
  have hb := C.1.1.2.1
  have hlt := lt_b gn
  have hm9 := hm
  obtain ⟨hT, hL, hE, hG, hP, hD, hN, hB, hC⟩ := hm9
  refine lv_aload_n hx hb dL_law_604 rfl (lv_at hl 1 rfl) ?_
  refine lv_aload_n hx hb dL_law_605 rfl (lv_at hl 0 rfl) ?_
  refine lv_iload hx hb dL_law_606 (lv_at hl 4 rfl) ?_
  refine lv_iconst (v := 1) hx hb dL_law_608 (by decide) ?_
  refine lv_iadd hx hb dL_law_609 ?_
  refine lv_cgi (y := nI (i + 1)) (ni_k i 1) ?_
  refine va_sld hx hb hX hbl hbA h.2.2 (i := (nI (i + 1))) (vp_in_nI (by omega) (by omega)) dL_law_610 ?_
  refine lv_cgi (y := xs (i + 1)) (nn_at xs (by omega)) ?_
  refine lv_cgi (y := (nI k)) (ek) ?_
  refine lv_aload_n hx hb dL_law_611 rfl (lv_at hl 0 rfl) ?_
  refine lv_iload hx hb dL_law_612 (lv_at hl 4 rfl) ?_
  refine lv_iconst (v := 2) hx hb dL_law_614 (by decide) ?_
  refine lv_iadd hx hb dL_law_615 ?_
  refine lv_cgi (y := nI (i + 2)) (ni_k i 2) ?_
  refine va_sld hx hb hX hbl hbA h.2.2 (i := (nI (i + 2))) (vp_in_nI (by omega) (by omega)) dL_law_616 ?_
  refine lv_cgi (y := xs (i + 2)) (nn_at xs (by omega)) ?_
  have hp := (pmP px_7 : List.Perm (lW G ad md ou ng nw tn nl ne gn nb ns l1 l2 l3 tf l0 lf lt en ef et ep pr py ld ll lc bd bl sd sl ag z la tk tz lo wt tv D gc td tl fd st ca cs cb cd so bo rf of I F rw gd gl : va_W) _)
  refine k_i C h hp (r_runV C h hp 0 rfl rfl (As := [.int (nI k), .int (xs (i + 2))]) (rest := []) (h_scale l G ad ng nw lo D nl ne l0 lf lt la tk tz tv en ef et ep (mLv F L) (rL_S hL hE hG) (rG_D hG) z k hk (xs (i + 2)) hq9) (cwV 2 C.1.1.2.2.2.2 gL_law_X9_scale rfl rfl rfl (by decide +kernel) ⟨Nat.le_of_ble_eq_true rfl, Nat.le_of_ble_eq_true rfl⟩) rfl hl.1 (Nat.le_of_ble_eq_true rfl) dL_law_617 ⟨by show _ ≤ 601024; omega, by show _ ≤ 7293033; omega⟩) (fun ra ua H locs hwa h => ?_)
  have h : gS G A s (lW G ad md ou ng nw tn nl ne gn nb ns l1 l2 l3 tf l0 lf lt en ef et ep pr py ld ll lc bd bl sd sl ag ua la tk tz lo wt tv D gc td tl fd st ca cs cb cd so bo rf of I F rw gd gl) H locs := gS.perm h (List.Perm.symm (pmP px_7))
  refine lv_aload_n hx hb dL_law_620 rfl (lv_at hl 2 rfl) ?_
  refine lv_aload_n hx hb dL_law_621 rfl (lv_at hl 0 rfl) ?_
  refine lv_iload hx hb dL_law_622 (lv_at hl 4 rfl) ?_
  refine lv_iconst (v := 1) hx hb dL_law_624 (by decide) ?_
  refine lv_iadd hx hb dL_law_625 ?_
  refine lv_cgi (y := nI (i + 1)) (ni_k i 1) ?_
  refine va_sld hx hb hX hbl hbA h.2.2 (i := (nI (i + 1))) (vp_in_nI (by omega) (by omega)) dL_law_626 ?_
  refine lv_cgi (y := xs (i + 1)) (nn_at xs (by omega)) ?_
  refine lv_cgi (y := (nI k)) (ek) ?_
  refine lv_aload_n hx hb dL_law_627 rfl (lv_at hl 0 rfl) ?_
  refine lv_iload hx hb dL_law_628 (lv_at hl 4 rfl) ?_
  refine lv_iconst (v := 2) hx hb dL_law_630 (by decide) ?_
  refine lv_iadd hx hb dL_law_631 ?_
  refine lv_cgi (y := nI (i + 2)) (ni_k i 2) ?_
  refine va_sld hx hb hX hbl hbA h.2.2 (i := (nI (i + 2))) (vp_in_nI (by omega) (by omega)) dL_law_632 ?_
  refine lv_cgi (y := xs (i + 2)) (nn_at xs (by omega)) ?_
  have hp := (pmD px_1 : List.Perm (lW G ad md ou ng nw tn nl ne gn nb ns l1 l2 l3 tf l0 lf lt en ef et ep pr py ld ll lc bd bl sd sl ag ua la tk tz lo wt tv D gc td tl fd st ca cs cb cd so bo rf of I F rw gd gl : va_W) _)
  refine k_i C h hp (r_runV C h hp 0 rfl rfl (As := [.int (nI k), .int (xs (i + 2))]) (rest := [.int ra]) (m_scale l G md I F rw gd gl nl ne L (rL_gd hL hE) ng hG.2.1 hG.1 (nI k) (xs (i + 2))) (cwV 2 C.1.1.2.2.2.2 gL_law_X10_scale rfl rfl rfl (by decide +kernel) ⟨Nat.le_of_ble_eq_true rfl, Nat.le_of_ble_eq_true rfl⟩) rfl hl.1 (Nat.le_of_ble_eq_true rfl) dL_law_633 ⟨by show _ ≤ 601024; omega, by show _ ≤ 7293033; omega⟩) (fun rb ub H locs hwb h => ?_)
  have h : gS G A s (lW G ad md ou ng nw tn nl ne gn nb ns l1 l2 l3 tf l0 lf lt en ef et ep pr py ld ll lc bd bl sd sl ag ua la tk tz lo wt tv D gc td tl fd st ca cs cb cd so bo rf of ub.1 F ub.2.1 ub.2.2.1 ub.2.2.2) H locs := gS.perm h (List.Perm.symm (pmD px_1))
  have hq : ra = rb := by rw [hwa, hwb.1]; exact la_scale k (xs (i + 2)) hk hq9 hm
  refine lv_icmp_eq (tgt := 1074) hx hb dL_law_636 (by decide) (fun c_636 => ?_) (fun c_636 => ?_)
  · exact kx (lW G ad md ou ng nw tn nl ne gn nb ns l1 l2 l3 tf l0 lf lt en ef et ep pr py ld ll lc bd bl sd sl ag ua la tk tz lo wt tv D gc td tl fd st ca cs cb cd so bo rf of ub.1 F ub.2.1 ub.2.2.1 ub.2.2.2) _ _ _ _ ls ⟨ng, nw, tn, nl, ne, gn, nb, ns, l1, l2, l3, tf, l0, lf, lt, en, ef, et, ep, pr, py, ld, ll, lc, bd, bl, sd, sl, ag, ua, la, tk, tz, lo, wt, tv, D, gc, td, tl, fd, st, ca, cs, cb, cd, so, bo, rf, of, ub.1, F, ub.2.1, ub.2.2.1, ub.2.2.2, L, rfl, (hm_jm (jm_th hwb.2) hm), by omega, by omega⟩ h (lv_sub hl [0, 1, 2, 3, 4] rfl)
  · exact absurd (hq) c_636

set_option maxHeartbeats 4000000 in
set_option maxRecDepth 100000 in
theorem lc_sum {p : Program} {l : Launch} {e : Env} {s : State} {m : MethodId} {args : Array Value} {below : List Frame} {meth : Method} {c : Code} {cells slots : Nat} {Q : State → Prop} {G : gG} {A : Nat → Prop} (C : gC p m c cL_law 8 s args wsL_law RL G A) (ad md : Nat → Nat) (ou b Ls : Nat) (xs : Nat → Int32) (hX : va_X b Ls xs s s.heap) (hbl : b < s.heap.size) (hbA : ¬ A b) (hLs : Ls ≤ 3072) (i j : Nat) (hij : i = 6 * j) (hi6 : i + 6 ≤ Ls) (ng : Nat) (nw : Nat) (tn : Nat) (nl : Nat) (ne : Nat) (gn : Nat) (nb : Nat) (ns : Nat) (l1 : Nat) (l2 : Nat) (l3 : Nat) (tf : Nat → Int32) (l0 : Nat → Int32) (lf : Nat → Int32) (lt : Nat → Int32) (en : Nat → Int32) (ef : Nat → Int32) (et : Nat → Int32) (ep : Nat → Int32) (pr : Nat → Int32) (py : Nat → Int32) (ld : Nat → Int32) (ll : Nat → Int32) (lc : Nat → Int32) (bd : Nat → Int32) (bl : Nat → Int32) (sd : Nat → Int32) (sl : Nat → Int32) (ag : Nat → Int32) (z : RS) (la : Nat → Nat) (tk : Nat → Nat) (tz : Nat → Nat) (lo : Nat → Nat) (wt : Nat → Nat) (tv : Nat → Nat → Int32) (D : Nat → Nat → Int32) (gc : Int32) (td : Int32) (tl : Int32) (fd : Int32) (st : Int32) (ca : Int32) (cs : Int32) (cb : Int32) (cd : Int32) (so : Nat → Option Nat) (bo : Nat → Option Nat) (rf : Nat → Option Nat) (of : Nat → Int64) (I : Nat → Int32) (F : Nat → Nat → Int32) (rw : Nat) (gd : Int64) (gl : Int64) (L : Nat → Nat) (hm : hmR tn tf nl l0 lf lt tz tv ne en ef et ep ng D pr gn gc ld ll lc nw nb ns bd bl sd sl td tl fd st so ca cs cb cd I F L) (hcb : cells ≤ 200 + 10 * j + ltC gn) (hsb : slots ≤ 100000 + 300 * j + ltS gn)  (kx : ∀ (W9 : va_W) (cells slots : Nat) (H : Heap) (locs : List Loc) (ls : Array Slot), lwI G ad md ou (j + 1) W9 cells slots → gS G A s W9 H locs → lv_has ls 8 [(0, .ref b), (1, .ref (ad 0)), (2, .ref (md 0)), (3, .ref ou), (4, .int (nI i))] → W p l e room_1 s m args below meth c H locs cells slots Q (F0 m 1074 ls [])) (H : Heap) (locs : List Loc) (ls : Array Slot) (h : gS G A s (lW G ad md ou ng nw tn nl ne gn nb ns l1 l2 l3 tf l0 lf lt en ef et ep pr py ld ll lc bd bl sd sl ag z la tk tz lo wt tv D gc td tl fd st ca cs cb cd so bo rf of I F rw gd gl) H locs) (hl : lv_has ls 8 [(0, .ref b), (1, .ref (ad 0)), (2, .ref (md 0)), (3, .ref ou), (4, .int (nI i))]) : W p l e room_1 s m args below meth c H locs cells slots Q (F0 m 641 ls []) := by
  have hx := C.1.1.1
  have hb := C.1.1.2.1
  have hlt := lt_b gn
  have hm9 := hm
  obtain ⟨hT, hL, hE, hG, hP, hD, hN, hB, hC⟩ := hm9
  refine lv_aload_n hx hb dL_law_641 rfl (lv_at hl 1 rfl) ?_
  refine lv_aload_n hx hb dL_law_642 rfl (lv_at hl 0 rfl) ?_
  refine lv_iload hx hb dL_law_643 (lv_at hl 4 rfl) ?_
  refine lv_iconst (v := 1) hx hb dL_law_645 (by decide) ?_
  refine lv_iadd hx hb dL_law_646 ?_
  refine lv_cgi (y := nI (i + 1)) (ni_k i 1) ?_
  refine va_sld hx hb hX hbl hbA h.2.2 (i := (nI (i + 1))) (vp_in_nI (by omega) (by omega)) dL_law_647 ?_
  refine lv_cgi (y := xs (i + 1)) (nn_at xs (by omega)) ?_
  refine lv_aload_n hx hb dL_law_648 rfl (lv_at hl 0 rfl) ?_
  refine lv_iload hx hb dL_law_649 (lv_at hl 4 rfl) ?_
  refine lv_iconst (v := 2) hx hb dL_law_651 (by decide) ?_
  refine lv_iadd hx hb dL_law_652 ?_
  refine lv_cgi (y := nI (i + 2)) (ni_k i 2) ?_
  refine va_sld hx hb hX hbl hbA h.2.2 (i := (nI (i + 2))) (vp_in_nI (by omega) (by omega)) dL_law_653 ?_
  refine lv_cgi (y := xs (i + 2)) (nn_at xs (by omega)) ?_
  have hp := (pmP px_7 : List.Perm (lW G ad md ou ng nw tn nl ne gn nb ns l1 l2 l3 tf l0 lf lt en ef et ep pr py ld ll lc bd bl sd sl ag z la tk tz lo wt tv D gc td tl fd st ca cs cb cd so bo rf of I F rw gd gl : va_W) _)
  refine k_i C h hp (r_runV C h hp 0 rfl rfl (As := [.int (xs (i + 1)), .int (xs (i + 2))]) (rest := []) (h_sum l G ad ng nw lo D nl ne l0 lf lt la tk tz tv en ef et ep (mLv F L) (rL_S hL hE hG) (rG_D hG) z (xs (i + 1)) (xs (i + 2))) (cwV 2 C.1.1.2.2.2.2 gL_law_X9_sum rfl rfl rfl (by decide +kernel) ⟨Nat.le_of_ble_eq_true rfl, Nat.le_of_ble_eq_true rfl⟩) rfl hl.1 (Nat.le_of_ble_eq_true rfl) dL_law_654 ⟨by show _ ≤ 601024; omega, by show _ ≤ 7293033; omega⟩) (fun ra ua H locs hwa h => ?_)
  have h : gS G A s (lW G ad md ou ng nw tn nl ne gn nb ns l1 l2 l3 tf l0 lf lt en ef et ep pr py ld ll lc bd bl sd sl ag ua la tk tz lo wt tv D gc td tl fd st ca cs cb cd so bo rf of I F rw gd gl) H locs := gS.perm h (List.Perm.symm (pmP px_7))
  refine lv_aload_n hx hb dL_law_657 rfl (lv_at hl 2 rfl) ?_
  refine lv_aload_n hx hb dL_law_658 rfl (lv_at hl 0 rfl) ?_
  refine lv_iload hx hb dL_law_659 (lv_at hl 4 rfl) ?_
  refine lv_iconst (v := 1) hx hb dL_law_661 (by decide) ?_
  refine lv_iadd hx hb dL_law_662 ?_
  refine lv_cgi (y := nI (i + 1)) (ni_k i 1) ?_
  refine va_sld hx hb hX hbl hbA h.2.2 (i := (nI (i + 1))) (vp_in_nI (by omega) (by omega)) dL_law_663 ?_
  refine lv_cgi (y := xs (i + 1)) (nn_at xs (by omega)) ?_
  refine lv_aload_n hx hb dL_law_664 rfl (lv_at hl 0 rfl) ?_
  refine lv_iload hx hb dL_law_665 (lv_at hl 4 rfl) ?_
  refine lv_iconst (v := 2) hx hb dL_law_667 (by decide) ?_
  refine lv_iadd hx hb dL_law_668 ?_
  refine lv_cgi (y := nI (i + 2)) (ni_k i 2) ?_
  refine va_sld hx hb hX hbl hbA h.2.2 (i := (nI (i + 2))) (vp_in_nI (by omega) (by omega)) dL_law_669 ?_
  refine lv_cgi (y := xs (i + 2)) (nn_at xs (by omega)) ?_
  have hp := (pmD px_1 : List.Perm (lW G ad md ou ng nw tn nl ne gn nb ns l1 l2 l3 tf l0 lf lt en ef et ep pr py ld ll lc bd bl sd sl ag ua la tk tz lo wt tv D gc td tl fd st ca cs cb cd so bo rf of I F rw gd gl : va_W) _)
  refine k_i C h hp (r_runV C h hp 0 rfl rfl (As := [.int (xs (i + 1)), .int (xs (i + 2))]) (rest := [.int ra]) (m_sum l G md I F rw gd gl nl ne L (rL_gd hL hE) ng hG.2.1 hG.1 (xs (i + 1)) (xs (i + 2))) (cwV 2 C.1.1.2.2.2.2 gL_law_X10_sum rfl rfl rfl (by decide +kernel) ⟨Nat.le_of_ble_eq_true rfl, Nat.le_of_ble_eq_true rfl⟩) rfl hl.1 (Nat.le_of_ble_eq_true rfl) dL_law_670 ⟨by show _ ≤ 601024; omega, by show _ ≤ 7293033; omega⟩) (fun rb ub H locs hwb h => ?_)
  have h : gS G A s (lW G ad md ou ng nw tn nl ne gn nb ns l1 l2 l3 tf l0 lf lt en ef et ep pr py ld ll lc bd bl sd sl ag ua la tk tz lo wt tv D gc td tl fd st ca cs cb cd so bo rf of ub.1 F ub.2.1 ub.2.2.1 ub.2.2.2) H locs := gS.perm h (List.Perm.symm (pmD px_1))
  have hq : ra = rb := by rw [hwa, hwb.1]; exact la_sum (xs (i + 1)) (xs (i + 2)) hm
  refine lv_icmp_eq (tgt := 1074) hx hb dL_law_673 (by decide) (fun c_673 => ?_) (fun c_673 => ?_)
  · exact kx (lW G ad md ou ng nw tn nl ne gn nb ns l1 l2 l3 tf l0 lf lt en ef et ep pr py ld ll lc bd bl sd sl ag ua la tk tz lo wt tv D gc td tl fd st ca cs cb cd so bo rf of ub.1 F ub.2.1 ub.2.2.1 ub.2.2.2) _ _ _ _ ls ⟨ng, nw, tn, nl, ne, gn, nb, ns, l1, l2, l3, tf, l0, lf, lt, en, ef, et, ep, pr, py, ld, ll, lc, bd, bl, sd, sl, ag, ua, la, tk, tz, lo, wt, tv, D, gc, td, tl, fd, st, ca, cs, cb, cd, so, bo, rf, of, ub.1, F, ub.2.1, ub.2.2.1, ub.2.2.2, L, rfl, (hm_jm (jm_th hwb.2) hm), by omega, by omega⟩ h (lv_sub hl [0, 1, 2, 3, 4] rfl)
  · exact absurd (hq) c_673

set_option maxHeartbeats 4000000 in
set_option maxRecDepth 100000 in
theorem lc_price {p : Program} {l : Launch} {e : Env} {s : State} {m : MethodId} {args : Array Value} {below : List Frame} {meth : Method} {c : Code} {cells slots : Nat} {Q : State → Prop} {G : gG} {A : Nat → Prop} (C : gC p m c cL_law 8 s args wsL_law RL G A) (ad md : Nat → Nat) (ou b Ls : Nat) (xs : Nat → Int32) (hX : va_X b Ls xs s s.heap) (hbl : b < s.heap.size) (hbA : ¬ A b) (hLs : Ls ≤ 3072) (i j : Nat) (hij : i = 6 * j) (hi6 : i + 6 ≤ Ls) (ng : Nat) (nw : Nat) (tn : Nat) (nl : Nat) (ne : Nat) (gn : Nat) (nb : Nat) (ns : Nat) (l1 : Nat) (l2 : Nat) (l3 : Nat) (tf : Nat → Int32) (l0 : Nat → Int32) (lf : Nat → Int32) (lt : Nat → Int32) (en : Nat → Int32) (ef : Nat → Int32) (et : Nat → Int32) (ep : Nat → Int32) (pr : Nat → Int32) (py : Nat → Int32) (ld : Nat → Int32) (ll : Nat → Int32) (lc : Nat → Int32) (bd : Nat → Int32) (bl : Nat → Int32) (sd : Nat → Int32) (sl : Nat → Int32) (ag : Nat → Int32) (z : RS) (la : Nat → Nat) (tk : Nat → Nat) (tz : Nat → Nat) (lo : Nat → Nat) (wt : Nat → Nat) (tv : Nat → Nat → Int32) (D : Nat → Nat → Int32) (gc : Int32) (td : Int32) (tl : Int32) (fd : Int32) (st : Int32) (ca : Int32) (cs : Int32) (cb : Int32) (cd : Int32) (so : Nat → Option Nat) (bo : Nat → Option Nat) (rf : Nat → Option Nat) (of : Nat → Int64) (I : Nat → Int32) (F : Nat → Nat → Int32) (rw : Nat) (gd : Int64) (gl : Int64) (L : Nat → Nat) (hm : hmR tn tf nl l0 lf lt tz tv ne en ef et ep ng D pr gn gc ld ll lc nw nb ns bd bl sd sl td tl fd st so ca cs cb cd I F L) (hcb : cells ≤ 200 + 10 * j + ltC gn) (hsb : slots ≤ 100000 + 300 * j + ltS gn)  (kx : ∀ (W9 : va_W) (cells slots : Nat) (H : Heap) (locs : List Loc) (ls : Array Slot), lwI G ad md ou (j + 1) W9 cells slots → gS G A s W9 H locs → lv_has ls 8 [(0, .ref b), (1, .ref (ad 0)), (2, .ref (md 0)), (3, .ref ou), (4, .int (nI i))] → W p l e room_1 s m args below meth c H locs cells slots Q (F0 m 1074 ls [])) (H : Heap) (locs : List Loc) (ls : Array Slot) (h : gS G A s (lW G ad md ou ng nw tn nl ne gn nb ns l1 l2 l3 tf l0 lf lt en ef et ep pr py ld ll lc bd bl sd sl ag z la tk tz lo wt tv D gc td tl fd st ca cs cb cd so bo rf of I F rw gd gl) H locs) (hl : lv_has ls 8 [(0, .ref b), (1, .ref (ad 0)), (2, .ref (md 0)), (3, .ref ou), (4, .int (nI i))]) : W p l e room_1 s m args below meth c H locs cells slots Q (F0 m 678 ls []) := by
  have hx := C.1.1.1
  have hb := C.1.1.2.1
  have hlt := lt_b gn
  have hm9 := hm
  obtain ⟨hT, hL, hE, hG, hP, hD, hN, hB, hC⟩ := hm9
  refine lv_aload_n hx hb dL_law_678 rfl (lv_at hl 1 rfl) ?_
  refine lv_aload_n hx hb dL_law_679 rfl (lv_at hl 0 rfl) ?_
  refine lv_iload hx hb dL_law_680 (lv_at hl 4 rfl) ?_
  refine lv_iconst (v := 1) hx hb dL_law_682 (by decide) ?_
  refine lv_iadd hx hb dL_law_683 ?_
  refine lv_cgi (y := nI (i + 1)) (ni_k i 1) ?_
  refine va_sld hx hb hX hbl hbA h.2.2 (i := (nI (i + 1))) (vp_in_nI (by omega) (by omega)) dL_law_684 ?_
  refine lv_cgi (y := xs (i + 1)) (nn_at xs (by omega)) ?_
  refine lv_aload_n hx hb dL_law_685 rfl (lv_at hl 0 rfl) ?_
  refine lv_iload hx hb dL_law_686 (lv_at hl 4 rfl) ?_
  refine lv_iconst (v := 2) hx hb dL_law_688 (by decide) ?_
  refine lv_iadd hx hb dL_law_689 ?_
  refine lv_cgi (y := nI (i + 2)) (ni_k i 2) ?_
  refine va_sld hx hb hX hbl hbA h.2.2 (i := (nI (i + 2))) (vp_in_nI (by omega) (by omega)) dL_law_690 ?_
  refine lv_cgi (y := xs (i + 2)) (nn_at xs (by omega)) ?_
  have hp := (pmD px_8 : List.Perm (lW G ad md ou ng nw tn nl ne gn nb ns l1 l2 l3 tf l0 lf lt en ef et ep pr py ld ll lc bd bl sd sl ag z la tk tz lo wt tv D gc td tl fd st ca cs cb cd so bo rf of I F rw gd gl : va_W) _)
  refine k_i C h hp (r_runV C h hp 0 rfl rfl (As := [.int (xs (i + 1)), .int (xs (i + 2))]) (rest := []) (h_price l G ad ng nw pr (xs (i + 1)) (xs (i + 2))) (cwV 2 C.1.1.2.2.2.2 gL_law_X9_price rfl rfl rfl (by decide +kernel) ⟨Nat.le_of_ble_eq_true rfl, Nat.le_of_ble_eq_true rfl⟩) rfl hl.1 (Nat.le_of_ble_eq_true rfl) dL_law_691 ⟨by show _ ≤ 601024; omega, by show _ ≤ 7293033; omega⟩) (fun ra ua H locs hwa h => ?_)
  have h : gS G A s (lW G ad md ou ng nw tn nl ne gn nb ns l1 l2 l3 tf l0 lf lt en ef et ep (if hPok (xs (i + 1)) (xs (i + 2)) = true then upd pr (xs (i + 1)).toNatClampNeg (xs (i + 2)) else pr) py ld ll lc bd bl sd sl ag z la tk tz lo wt tv D gc td tl fd st ca cs cb cd so bo rf of I F rw gd gl) H locs := gS.perm h (List.Perm.symm (pmD px_8))
  refine lv_aload_n hx hb dL_law_694 rfl (lv_at hl 2 rfl) ?_
  refine lv_aload_n hx hb dL_law_695 rfl (lv_at hl 0 rfl) ?_
  refine lv_iload hx hb dL_law_696 (lv_at hl 4 rfl) ?_
  refine lv_iconst (v := 1) hx hb dL_law_698 (by decide) ?_
  refine lv_iadd hx hb dL_law_699 ?_
  refine lv_cgi (y := nI (i + 1)) (ni_k i 1) ?_
  refine va_sld hx hb hX hbl hbA h.2.2 (i := (nI (i + 1))) (vp_in_nI (by omega) (by omega)) dL_law_700 ?_
  refine lv_cgi (y := xs (i + 1)) (nn_at xs (by omega)) ?_
  refine lv_aload_n hx hb dL_law_701 rfl (lv_at hl 0 rfl) ?_
  refine lv_iload hx hb dL_law_702 (lv_at hl 4 rfl) ?_
  refine lv_iconst (v := 2) hx hb dL_law_704 (by decide) ?_
  refine lv_iadd hx hb dL_law_705 ?_
  refine lv_cgi (y := nI (i + 2)) (ni_k i 2) ?_
  refine va_sld hx hb hX hbl hbA h.2.2 (i := (nI (i + 2))) (vp_in_nI (by omega) (by omega)) dL_law_706 ?_
  refine lv_cgi (y := xs (i + 2)) (nn_at xs (by omega)) ?_
  have hp := (pmD px_1 : List.Perm (lW G ad md ou ng nw tn nl ne gn nb ns l1 l2 l3 tf l0 lf lt en ef et ep (if hPok (xs (i + 1)) (xs (i + 2)) = true then upd pr (xs (i + 1)).toNatClampNeg (xs (i + 2)) else pr) py ld ll lc bd bl sd sl ag z la tk tz lo wt tv D gc td tl fd st ca cs cb cd so bo rf of I F rw gd gl : va_W) _)
  refine k_i C h hp (r_runV C h hp 0 rfl rfl (As := [.int (xs (i + 1)), .int (xs (i + 2))]) (rest := [.int ra]) (m_price l G md I F rw gd gl (xs (i + 1)) (xs (i + 2))) (cwV 2 C.1.1.2.2.2.2 gL_law_X10_price rfl rfl rfl (by decide +kernel) ⟨Nat.le_of_ble_eq_true rfl, Nat.le_of_ble_eq_true rfl⟩) rfl hl.1 (Nat.le_of_ble_eq_true rfl) dL_law_707 ⟨by show _ ≤ 601024; omega, by show _ ≤ 7293033; omega⟩) (fun rb ub H locs hwb h => ?_)
  have h : gS G A s (lW G ad md ou ng nw tn nl ne gn nb ns l1 l2 l3 tf l0 lf lt en ef et ep (if hPok (xs (i + 1)) (xs (i + 2)) = true then upd pr (xs (i + 1)).toNatClampNeg (xs (i + 2)) else pr) py ld ll lc bd bl sd sl ag z la tk tz lo wt tv D gc td tl fd st ca cs cb cd so bo rf of ((mPrice I F (xs (i + 1)) (xs (i + 2))).2.1) ((mPrice I F (xs (i + 1)) (xs (i + 2))).2.2) rw gd gl) H locs := gS.perm h (List.Perm.symm (pmD px_1))
  have hq := la_price (xs (i + 1)) (xs (i + 2)) hm
  rw [← hwa, ← hwb] at hq
  refine lv_icmp_eq (tgt := 1074) hx hb dL_law_710 (by decide) (fun c_710 => ?_) (fun c_710 => ?_)
  · exact kx (lW G ad md ou ng nw tn nl ne gn nb ns l1 l2 l3 tf l0 lf lt en ef et ep (if hPok (xs (i + 1)) (xs (i + 2)) = true then upd pr (xs (i + 1)).toNatClampNeg (xs (i + 2)) else pr) py ld ll lc bd bl sd sl ag z la tk tz lo wt tv D gc td tl fd st ca cs cb cd so bo rf of ((mPrice I F (xs (i + 1)) (xs (i + 2))).2.1) ((mPrice I F (xs (i + 1)) (xs (i + 2))).2.2) rw gd gl) _ _ _ _ ls ⟨ng, nw, tn, nl, ne, gn, nb, ns, l1, l2, l3, tf, l0, lf, lt, en, ef, et, ep, (if hPok (xs (i + 1)) (xs (i + 2)) = true then upd pr (xs (i + 1)).toNatClampNeg (xs (i + 2)) else pr), py, ld, ll, lc, bd, bl, sd, sl, ag, z, la, tk, tz, lo, wt, tv, D, gc, td, tl, fd, st, ca, cs, cb, cd, so, bo, rf, of, ((mPrice I F (xs (i + 1)) (xs (i + 2))).2.1), ((mPrice I F (xs (i + 1)) (xs (i + 2))).2.2), rw, gd, gl, L, rfl, hq.2, by omega, by omega⟩ h (lv_sub hl [0, 1, 2, 3, 4] rfl)
  · exact absurd (hq.1) c_710

set_option maxHeartbeats 4000000 in
set_option maxRecDepth 100000 in
theorem lc_dayN {p : Program} {l : Launch} {e : Env} {s : State} {m : MethodId} {args : Array Value} {below : List Frame} {meth : Method} {c : Code} {cells slots : Nat} {Q : State → Prop} {G : gG} {A : Nat → Prop} (C : gC p m c cL_law 8 s args wsL_law RL G A) (ad md : Nat → Nat) (ou b Ls : Nat) (xs : Nat → Int32) (hX : va_X b Ls xs s s.heap) (hbl : b < s.heap.size) (hbA : ¬ A b) (hLs : Ls ≤ 3072) (i j : Nat) (hij : i = 6 * j) (hi6 : i + 6 ≤ Ls) (ng : Nat) (nw : Nat) (tn : Nat) (nl : Nat) (ne : Nat) (gn : Nat) (nb : Nat) (ns : Nat) (l1 : Nat) (l2 : Nat) (l3 : Nat) (tf : Nat → Int32) (l0 : Nat → Int32) (lf : Nat → Int32) (lt : Nat → Int32) (en : Nat → Int32) (ef : Nat → Int32) (et : Nat → Int32) (ep : Nat → Int32) (pr : Nat → Int32) (py : Nat → Int32) (ld : Nat → Int32) (ll : Nat → Int32) (lc : Nat → Int32) (bd : Nat → Int32) (bl : Nat → Int32) (sd : Nat → Int32) (sl : Nat → Int32) (ag : Nat → Int32) (z : RS) (la : Nat → Nat) (tk : Nat → Nat) (tz : Nat → Nat) (lo : Nat → Nat) (wt : Nat → Nat) (tv : Nat → Nat → Int32) (D : Nat → Nat → Int32) (gc : Int32) (td : Int32) (tl : Int32) (fd : Int32) (st : Int32) (ca : Int32) (cs : Int32) (cb : Int32) (cd : Int32) (so : Nat → Option Nat) (bo : Nat → Option Nat) (rf : Nat → Option Nat) (of : Nat → Int64) (I : Nat → Int32) (F : Nat → Nat → Int32) (rw : Nat) (gd : Int64) (gl : Int64) (L : Nat → Nat) (hm : hmR tn tf nl l0 lf lt tz tv ne en ef et ep ng D pr gn gc ld ll lc nw nb ns bd bl sd sl td tl fd st so ca cs cb cd I F L) (hcb : cells ≤ 200 + 10 * j + ltC gn) (hsb : slots ≤ 100000 + 300 * j + ltS gn) (hnw : 500 ≤ nw) (kx : ∀ (W9 : va_W) (cells slots : Nat) (H : Heap) (locs : List Loc) (ls : Array Slot), lwI G ad md ou (j + 1) W9 cells slots → gS G A s W9 H locs → lv_has ls 8 [(0, .ref b), (1, .ref (ad 0)), (2, .ref (md 0)), (3, .ref ou), (4, .int (nI i))] → W p l e room_1 s m args below meth c H locs cells slots Q (F0 m 1074 ls [])) (H : Heap) (locs : List Loc) (ls : Array Slot) (h : gS G A s (lW G ad md ou ng nw tn nl ne gn nb ns l1 l2 l3 tf l0 lf lt en ef et ep pr py ld ll lc bd bl sd sl ag z la tk tz lo wt tv D gc td tl fd st ca cs cb cd so bo rf of I F rw gd gl) H locs) (hl : lv_has ls 8 [(0, .ref b), (1, .ref (ad 0)), (2, .ref (md 0)), (3, .ref ou), (4, .int (nI i))]) : W p l e room_1 s m args below meth c H locs cells slots Q (F0 m 715 ls []) := by
  have hx := C.1.1.1
  have hb := C.1.1.2.1
  have hlt := lt_b gn
  have hm9 := hm
  obtain ⟨hT, hL, hE, hG, hP, hD, hN, hB, hC⟩ := hm9
  refine lv_aload_n hx hb dL_law_715 rfl (lv_at hl 1 rfl) ?_
  have hp := (pmD px_6 : List.Perm (lW G ad md ou ng nw tn nl ne gn nb ns l1 l2 l3 tf l0 lf lt en ef et ep pr py ld ll lc bd bl sd sl ag z la tk tz lo wt tv D gc td tl fd st ca cs cb cd so bo rf of I F rw gd gl : va_W) _)
  refine k_i C h hp (r_runV C h hp 0 rfl rfl (As := []) (rest := []) (h_dayN l G ad ng nw hnw hN.1) (cwV 0 C.1.1.2.2.2.2 gL_law_X9_day rfl rfl rfl (by decide +kernel) ⟨Nat.le_of_ble_eq_true rfl, Nat.le_of_ble_eq_true rfl⟩) rfl hl.1 (Nat.le_of_ble_eq_true rfl) dL_law_716 ⟨by show _ ≤ 601024; omega, by show _ ≤ 7293033; omega⟩) (fun ra ua H locs hwa h => ?_)
  have h : gS G A s (lW G ad md ou ng nw tn nl ne gn nb ns l1 l2 l3 tf l0 lf lt en ef et ep pr py ld ll lc bd bl sd sl ag z la tk tz lo wt tv D gc td tl fd st ca cs cb cd so bo rf of I F rw gd gl) H locs := gS.perm h (List.Perm.symm (pmD px_6))
  refine lv_aload_n hx hb dL_law_719 rfl (lv_at hl 2 rfl) ?_
  have hp := (pmD px_1 : List.Perm (lW G ad md ou ng nw tn nl ne gn nb ns l1 l2 l3 tf l0 lf lt en ef et ep pr py ld ll lc bd bl sd sl ag z la tk tz lo wt tv D gc td tl fd st ca cs cb cd so bo rf of I F rw gd gl : va_W) _)
  refine k_i C h hp (r_runV C h hp 0 rfl rfl (As := []) (rest := [.int ra]) (m_day l G md I F rw gd gl nl ne L (rL_gd hL hE) ng gn hG.2.1 hG.1 (rG_ow hG).2 hD.2.1 hD.1) (cwV 0 C.1.1.2.2.2.2 gL_law_X10_day rfl rfl rfl (by decide +kernel) ⟨Nat.le_of_ble_eq_true rfl, Nat.le_of_ble_eq_true rfl⟩) rfl hl.1 (Nat.le_of_ble_eq_true rfl) dL_law_720 ⟨by show _ ≤ 601024; omega, by show _ ≤ 7293033; omega⟩) (fun rb ub H locs hwb h => ?_)
  have h : gS G A s (lW G ad md ou ng nw tn nl ne gn nb ns l1 l2 l3 tf l0 lf lt en ef et ep pr py ld ll lc bd bl sd sl ag z la tk tz lo wt tv D gc td tl fd st ca cs cb cd so bo rf of ub.1 ((mDay I F nl ne L ng gn).2.2) ub.2.1 ub.2.2.1 ub.2.2.2) H locs := gS.perm h (List.Perm.symm (pmD px_1))
  have hq := la_dayN hnw hm
  rw [← hwb.1, ← hwa] at hq
  refine lv_icmp_eq (tgt := 1074) hx hb dL_law_723 (by decide) (fun c_723 => ?_) (fun c_723 => ?_)
  · exact kx (lW G ad md ou ng nw tn nl ne gn nb ns l1 l2 l3 tf l0 lf lt en ef et ep pr py ld ll lc bd bl sd sl ag z la tk tz lo wt tv D gc td tl fd st ca cs cb cd so bo rf of ub.1 ((mDay I F nl ne L ng gn).2.2) ub.2.1 ub.2.2.1 ub.2.2.2) _ _ _ _ ls ⟨ng, nw, tn, nl, ne, gn, nb, ns, l1, l2, l3, tf, l0, lf, lt, en, ef, et, ep, pr, py, ld, ll, lc, bd, bl, sd, sl, ag, z, la, tk, tz, lo, wt, tv, D, gc, td, tl, fd, st, ca, cs, cb, cd, so, bo, rf, of, ub.1, ((mDay I F nl ne L ng gn).2.2), ub.2.1, ub.2.2.1, ub.2.2.2, L, rfl, (hm_jm (jm_jk hwb.2) hq.2), by omega, by omega⟩ h (lv_sub hl [0, 1, 2, 3, 4] rfl)
  · exact absurd (hq.1) c_723

set_option maxHeartbeats 4000000 in
set_option maxRecDepth 100000 in
theorem lc_dayF {p : Program} {l : Launch} {e : Env} {s : State} {m : MethodId} {args : Array Value} {below : List Frame} {meth : Method} {c : Code} {cells slots : Nat} {Q : State → Prop} {G : gG} {A : Nat → Prop} (C : gC p m c cL_law 8 s args wsL_law RL G A) (ad md : Nat → Nat) (ou b Ls : Nat) (xs : Nat → Int32) (hX : va_X b Ls xs s s.heap) (hbl : b < s.heap.size) (hbA : ¬ A b) (hLs : Ls ≤ 3072) (i j : Nat) (hij : i = 6 * j) (hi6 : i + 6 ≤ Ls) (ng : Nat) (nw : Nat) (tn : Nat) (nl : Nat) (ne : Nat) (gn : Nat) (nb : Nat) (ns : Nat) (l1 : Nat) (l2 : Nat) (l3 : Nat) (tf : Nat → Int32) (l0 : Nat → Int32) (lf : Nat → Int32) (lt : Nat → Int32) (en : Nat → Int32) (ef : Nat → Int32) (et : Nat → Int32) (ep : Nat → Int32) (pr : Nat → Int32) (py : Nat → Int32) (ld : Nat → Int32) (ll : Nat → Int32) (lc : Nat → Int32) (bd : Nat → Int32) (bl : Nat → Int32) (sd : Nat → Int32) (sl : Nat → Int32) (ag : Nat → Int32) (z : RS) (la : Nat → Nat) (tk : Nat → Nat) (tz : Nat → Nat) (lo : Nat → Nat) (wt : Nat → Nat) (tv : Nat → Nat → Int32) (D : Nat → Nat → Int32) (gc : Int32) (td : Int32) (tl : Int32) (fd : Int32) (st : Int32) (ca : Int32) (cs : Int32) (cb : Int32) (cd : Int32) (so : Nat → Option Nat) (bo : Nat → Option Nat) (rf : Nat → Option Nat) (of : Nat → Int64) (I : Nat → Int32) (F : Nat → Nat → Int32) (rw : Nat) (gd : Int64) (gl : Int64) (L : Nat → Nat) (hm : hmR tn tf nl l0 lf lt tz tv ne en ef et ep ng D pr gn gc ld ll lc nw nb ns bd bl sd sl td tl fd st so ca cs cb cd I F L) (hcb : cells ≤ 200 + 10 * j + ltC gn) (hsb : slots ≤ 100000 + 300 * j + ltS gn) (hnw : nw < 500) (e29 : ¬ gn + (mCn (hPay l0 lf lt nl en ef et ep ne (mLv F L) pr D nw) (D 8) ng 0) ≤ 20000) (kx : ∀ (W9 : va_W) (cells slots : Nat) (H : Heap) (locs : List Loc) (ls : Array Slot), lwI G ad md ou (j + 1) W9 cells slots → gS G A s W9 H locs → lv_has ls 8 [(0, .ref b), (1, .ref (ad 0)), (2, .ref (md 0)), (3, .ref ou), (4, .int (nI i))] → W p l e room_1 s m args below meth c H locs cells slots Q (F0 m 1074 ls [])) (H : Heap) (locs : List Loc) (ls : Array Slot) (h : gS G A s (lW G ad md ou ng nw tn nl ne gn nb ns l1 l2 l3 tf l0 lf lt en ef et ep pr py ld ll lc bd bl sd sl ag z la tk tz lo wt tv D gc td tl fd st ca cs cb cd so bo rf of I F rw gd gl) H locs) (hl : lv_has ls 8 [(0, .ref b), (1, .ref (ad 0)), (2, .ref (md 0)), (3, .ref ou), (4, .int (nI i))]) : W p l e room_1 s m args below meth c H locs cells slots Q (F0 m 715 ls []) := by
  have hx := C.1.1.1
  have hb := C.1.1.2.1
  have hlt := lt_b gn
  have hm9 := hm
  obtain ⟨hT, hL, hE, hG, hP, hD, hN, hB, hC⟩ := hm9
  refine lv_aload_n hx hb dL_law_715 rfl (lv_at hl 1 rfl) ?_
  have hp := (pmP px_9 : List.Perm (lW G ad md ou ng nw tn nl ne gn nb ns l1 l2 l3 tf l0 lf lt en ef et ep pr py ld ll lc bd bl sd sl ag z la tk tz lo wt tv D gc td tl fd st ca cs cb cd so bo rf of I F rw gd gl : va_W) _)
  refine k_i C h hp (r_runV C h hp 0 rfl rfl (As := []) (rest := []) (h_dayF l G ad ng nw lo D nl ne l0 lf lt la tk tz tv en ef et ep (mLv F L) (rL_S hL hE hG) (rG_D hG) pr py (rG_ow hG).1 l1 l2 l3 gn gc ld ll lc z hnw hD.1 e29) (cwV 0 C.1.1.2.2.2.2 gL_law_X9_day rfl rfl rfl (by decide +kernel) ⟨Nat.le_of_ble_eq_true rfl, Nat.le_of_ble_eq_true rfl⟩) rfl hl.1 (Nat.le_of_ble_eq_true rfl) dL_law_716 ⟨by show _ ≤ 601024; omega, by show _ ≤ 7293033; omega⟩) (fun ra ua H locs hwa h => ?_)
  have h : gS G A s (lW G ad md ou ng nw tn nl ne gn nb ns l1 l2 l3 tf l0 lf lt en ef et ep pr (plF (hPay l0 lf lt nl en ef et ep ne (mLv F L) pr D nw) ng py) ld ll lc bd bl sd sl ag ua la tk tz lo wt tv D gc td tl fd st ca cs cb cd so bo rf of I F rw gd gl) H locs := gS.perm h (List.Perm.symm (pmP px_9))
  refine lv_aload_n hx hb dL_law_719 rfl (lv_at hl 2 rfl) ?_
  have hp := (pmD px_1 : List.Perm (lW G ad md ou ng nw tn nl ne gn nb ns l1 l2 l3 tf l0 lf lt en ef et ep pr (plF (hPay l0 lf lt nl en ef et ep ne (mLv F L) pr D nw) ng py) ld ll lc bd bl sd sl ag ua la tk tz lo wt tv D gc td tl fd st ca cs cb cd so bo rf of I F rw gd gl : va_W) _)
  refine k_i C h hp (r_runV C h hp 0 rfl rfl (As := []) (rest := [.int ra]) (m_day l G md I F rw gd gl nl ne L (rL_gd hL hE) ng gn hG.2.1 hG.1 (rG_ow hG).2 hD.2.1 hD.1) (cwV 0 C.1.1.2.2.2.2 gL_law_X10_day rfl rfl rfl (by decide +kernel) ⟨Nat.le_of_ble_eq_true rfl, Nat.le_of_ble_eq_true rfl⟩) rfl hl.1 (Nat.le_of_ble_eq_true rfl) dL_law_720 ⟨by show _ ≤ 601024; omega, by show _ ≤ 7293033; omega⟩) (fun rb ub H locs hwb h => ?_)
  have h : gS G A s (lW G ad md ou ng nw tn nl ne gn nb ns l1 l2 l3 tf l0 lf lt en ef et ep pr (plF (hPay l0 lf lt nl en ef et ep ne (mLv F L) pr D nw) ng py) ld ll lc bd bl sd sl ag ua la tk tz lo wt tv D gc td tl fd st ca cs cb cd so bo rf of ub.1 ((mDay I F nl ne L ng gn).2.2) ub.2.1 ub.2.2.1 ub.2.2.2) H locs := gS.perm h (List.Perm.symm (pmD px_1))
  have hq := la_dayF hnw e29 hm
  rw [← hwb.1, ← hwa] at hq
  refine lv_icmp_eq (tgt := 1074) hx hb dL_law_723 (by decide) (fun c_723 => ?_) (fun c_723 => ?_)
  · exact kx (lW G ad md ou ng nw tn nl ne gn nb ns l1 l2 l3 tf l0 lf lt en ef et ep pr (plF (hPay l0 lf lt nl en ef et ep ne (mLv F L) pr D nw) ng py) ld ll lc bd bl sd sl ag ua la tk tz lo wt tv D gc td tl fd st ca cs cb cd so bo rf of ub.1 ((mDay I F nl ne L ng gn).2.2) ub.2.1 ub.2.2.1 ub.2.2.2) _ _ _ _ ls ⟨ng, nw, tn, nl, ne, gn, nb, ns, l1, l2, l3, tf, l0, lf, lt, en, ef, et, ep, pr, (plF (hPay l0 lf lt nl en ef et ep ne (mLv F L) pr D nw) ng py), ld, ll, lc, bd, bl, sd, sl, ag, ua, la, tk, tz, lo, wt, tv, D, gc, td, tl, fd, st, ca, cs, cb, cd, so, bo, rf, of, ub.1, ((mDay I F nl ne L ng gn).2.2), ub.2.1, ub.2.2.1, ub.2.2.2, L, rfl, (hm_jm (jm_jk hwb.2) hq.2), by omega, by omega⟩ h (lv_sub hl [0, 1, 2, 3, 4] rfl)
  · exact absurd (hq.1) c_723

set_option maxHeartbeats 4000000 in
set_option maxRecDepth 100000 in
theorem lc_day {p : Program} {l : Launch} {e : Env} {s : State} {m : MethodId} {args : Array Value} {below : List Frame} {meth : Method} {c : Code} {cells slots : Nat} {Q : State → Prop} {G : gG} {A : Nat → Prop} (C : gC p m c cL_law 8 s args wsL_law RL G A) (ad md : Nat → Nat) (ou b Ls : Nat) (xs : Nat → Int32) (hX : va_X b Ls xs s s.heap) (hbl : b < s.heap.size) (hbA : ¬ A b) (hLs : Ls ≤ 3072) (i j : Nat) (hij : i = 6 * j) (hi6 : i + 6 ≤ Ls) (ng : Nat) (nw : Nat) (tn : Nat) (nl : Nat) (ne : Nat) (gn : Nat) (nb : Nat) (ns : Nat) (l1 : Nat) (l2 : Nat) (l3 : Nat) (tf : Nat → Int32) (l0 : Nat → Int32) (lf : Nat → Int32) (lt : Nat → Int32) (en : Nat → Int32) (ef : Nat → Int32) (et : Nat → Int32) (ep : Nat → Int32) (pr : Nat → Int32) (py : Nat → Int32) (ld : Nat → Int32) (ll : Nat → Int32) (lc : Nat → Int32) (bd : Nat → Int32) (bl : Nat → Int32) (sd : Nat → Int32) (sl : Nat → Int32) (ag : Nat → Int32) (z : RS) (la : Nat → Nat) (tk : Nat → Nat) (tz : Nat → Nat) (lo : Nat → Nat) (wt : Nat → Nat) (tv : Nat → Nat → Int32) (D : Nat → Nat → Int32) (gc : Int32) (td : Int32) (tl : Int32) (fd : Int32) (st : Int32) (ca : Int32) (cs : Int32) (cb : Int32) (cd : Int32) (so : Nat → Option Nat) (bo : Nat → Option Nat) (rf : Nat → Option Nat) (of : Nat → Int64) (I : Nat → Int32) (F : Nat → Nat → Int32) (rw : Nat) (gd : Int64) (gl : Int64) (L : Nat → Nat) (hm : hmR tn tf nl l0 lf lt tz tv ne en ef et ep ng D pr gn gc ld ll lc nw nb ns bd bl sd sl td tl fd st so ca cs cb cd I F L) (hcb : cells ≤ 200 + 10 * j + ltC gn) (hsb : slots ≤ 100000 + 300 * j + ltS gn) (hnw : nw < 500) (e29 : gn + (mCn (hPay l0 lf lt nl en ef et ep ne (mLv F L) pr D nw) (D 8) ng 0) ≤ 20000) (kx : ∀ (W9 : va_W) (cells slots : Nat) (H : Heap) (locs : List Loc) (ls : Array Slot), lwI G ad md ou (j + 1) W9 cells slots → gS G A s W9 H locs → lv_has ls 8 [(0, .ref b), (1, .ref (ad 0)), (2, .ref (md 0)), (3, .ref ou), (4, .int (nI i))] → W p l e room_1 s m args below meth c H locs cells slots Q (F0 m 1074 ls [])) (H : Heap) (locs : List Loc) (ls : Array Slot) (h : gS G A s (lW G ad md ou ng nw tn nl ne gn nb ns l1 l2 l3 tf l0 lf lt en ef et ep pr py ld ll lc bd bl sd sl ag z la tk tz lo wt tv D gc td tl fd st ca cs cb cd so bo rf of I F rw gd gl) H locs) (hl : lv_has ls 8 [(0, .ref b), (1, .ref (ad 0)), (2, .ref (md 0)), (3, .ref ou), (4, .int (nI i))]) : W p l e room_1 s m args below meth c H locs cells slots Q (F0 m 715 ls []) := by
  have hx := C.1.1.1
  have hb := C.1.1.2.1
  have hlt := lt_b gn
  have hm9 := hm
  obtain ⟨hT, hL, hE, hG, hP, hD, hN, hB, hC⟩ := hm9
  have hb2 := lt_b (gn + mCn (plF (hPay l0 lf lt nl en ef et ep ne (mLv F L) pr D nw) ng py) (D 8) ng 0)
  have hmo := lt_mono (a := gn) (mCn (plF (hPay l0 lf lt nl en ef et ep ne (mLv F L) pr D nw) ng py) (D 8) ng 0) (by rw [mCn_pl]; exact e29)
  refine lv_aload_n hx hb dL_law_715 rfl (lv_at hl 1 rfl) ?_
  have hp := (pmP px_9 : List.Perm (lW G ad md ou ng nw tn nl ne gn nb ns l1 l2 l3 tf l0 lf lt en ef et ep pr py ld ll lc bd bl sd sl ag z la tk tz lo wt tv D gc td tl fd st ca cs cb cd so bo rf of I F rw gd gl : va_W) _)
  refine k_i C h hp (r_runV C h hp 0 rfl rfl (As := []) (rest := []) (h_day l G ad ng nw lo D nl ne l0 lf lt la tk tz tv en ef et ep (mLv F L) (rL_S hL hE hG) (rG_D hG) pr py (rG_ow hG).1 l1 l2 l3 gn gc ld ll lc z hnw hD.1 e29) (cwV 0 C.1.1.2.2.2.2 gL_law_X9_day rfl rfl rfl (by decide +kernel) ⟨Nat.le_of_ble_eq_true rfl, Nat.le_of_ble_eq_true rfl⟩) rfl hl.1 (Nat.le_of_ble_eq_true rfl) dL_law_716 ⟨by show _ ≤ 601024; omega, by show _ ≤ 7293033; omega⟩) (fun ra ua H locs hwa h => ?_)
  have h : gS G A s (lW G ad md ou ng (nw + 1) tn nl ne ((mBk (plF (hPay l0 lf lt nl en ef et ep ne (mLv F L) pr D nw) ng py) (nI nw) ng 0 (D 8, ld, ll, lc, gn, gc)).2.2.2.2.1) nb ns ua.2.1 ua.2.2.1 ua.2.2.2.1 tf l0 lf lt en ef et ep pr (plF (hPay l0 lf lt nl en ef et ep ne (mLv F L) pr D nw) ng py) ua.2.2.2.2.1 ua.2.2.2.2.2.1 ua.2.2.2.2.2.2.1 bd bl sd sl ag ua.1 la tk tz lo wt tv ua.2.2.2.2.2.2.2 ((mBk (plF (hPay l0 lf lt nl en ef et ep ne (mLv F L) pr D nw) ng py) (nI nw) ng 0 (D 8, ld, ll, lc, gn, gc)).2.2.2.2.2) td tl fd st ca cs cb cd so bo rf of I F rw gd gl) H locs := gS.perm h (List.Perm.symm (pmP px_9))
  refine lv_aload_n hx hb dL_law_719 rfl (lv_at hl 2 rfl) ?_
  have hp := (pmD px_1 : List.Perm (lW G ad md ou ng (nw + 1) tn nl ne ((mBk (plF (hPay l0 lf lt nl en ef et ep ne (mLv F L) pr D nw) ng py) (nI nw) ng 0 (D 8, ld, ll, lc, gn, gc)).2.2.2.2.1) nb ns ua.2.1 ua.2.2.1 ua.2.2.2.1 tf l0 lf lt en ef et ep pr (plF (hPay l0 lf lt nl en ef et ep ne (mLv F L) pr D nw) ng py) ua.2.2.2.2.1 ua.2.2.2.2.2.1 ua.2.2.2.2.2.2.1 bd bl sd sl ag ua.1 la tk tz lo wt tv ua.2.2.2.2.2.2.2 ((mBk (plF (hPay l0 lf lt nl en ef et ep ne (mLv F L) pr D nw) ng py) (nI nw) ng 0 (D 8, ld, ll, lc, gn, gc)).2.2.2.2.2) td tl fd st ca cs cb cd so bo rf of I F rw gd gl : va_W) _)
  refine k_i C h hp (r_runV C h hp 0 rfl rfl (As := []) (rest := [.int ra]) (m_day l G md I F rw gd gl nl ne L (rL_gd hL hE) ng gn hG.2.1 hG.1 (rG_ow hG).2 hD.2.1 hD.1) (cwV 0 C.1.1.2.2.2.2 gL_law_X10_day rfl rfl rfl (by decide +kernel) ⟨Nat.le_of_ble_eq_true rfl, Nat.le_of_ble_eq_true rfl⟩) rfl hl.1 (Nat.le_of_ble_eq_true rfl) dL_law_720 ⟨by show _ ≤ 601024; omega, by show _ ≤ 7293033; omega⟩) (fun rb ub H locs hwb h => ?_)
  have h : gS G A s (lW G ad md ou ng (nw + 1) tn nl ne ((mBk (plF (hPay l0 lf lt nl en ef et ep ne (mLv F L) pr D nw) ng py) (nI nw) ng 0 (D 8, ld, ll, lc, gn, gc)).2.2.2.2.1) nb ns ua.2.1 ua.2.2.1 ua.2.2.2.1 tf l0 lf lt en ef et ep pr (plF (hPay l0 lf lt nl en ef et ep ne (mLv F L) pr D nw) ng py) ua.2.2.2.2.1 ua.2.2.2.2.2.1 ua.2.2.2.2.2.2.1 bd bl sd sl ag ua.1 la tk tz lo wt tv ua.2.2.2.2.2.2.2 ((mBk (plF (hPay l0 lf lt nl en ef et ep ne (mLv F L) pr D nw) ng py) (nI nw) ng 0 (D 8, ld, ll, lc, gn, gc)).2.2.2.2.2) td tl fd st ca cs cb cd so bo rf of ub.1 ((mDay I F nl ne L ng gn).2.2) ub.2.1 ub.2.2.1 ub.2.2.2) H locs := gS.perm h (List.Perm.symm (pmD px_1))
  have hq := la_day py ua.2.2.2.2.1 ua.2.2.2.2.2.1 ua.2.2.2.2.2.2.1 ua.2.2.2.2.2.2.2 hnw e29 hwa.2.1 hwa.2.2.1 hwa.2.2.2 hm
  rw [← hwb.1, ← hwa.1] at hq
  refine lv_icmp_eq (tgt := 1074) hx hb dL_law_723 (by decide) (fun c_723 => ?_) (fun c_723 => ?_)
  · exact kx (lW G ad md ou ng (nw + 1) tn nl ne ((mBk (plF (hPay l0 lf lt nl en ef et ep ne (mLv F L) pr D nw) ng py) (nI nw) ng 0 (D 8, ld, ll, lc, gn, gc)).2.2.2.2.1) nb ns ua.2.1 ua.2.2.1 ua.2.2.2.1 tf l0 lf lt en ef et ep pr (plF (hPay l0 lf lt nl en ef et ep ne (mLv F L) pr D nw) ng py) ua.2.2.2.2.1 ua.2.2.2.2.2.1 ua.2.2.2.2.2.2.1 bd bl sd sl ag ua.1 la tk tz lo wt tv ua.2.2.2.2.2.2.2 ((mBk (plF (hPay l0 lf lt nl en ef et ep ne (mLv F L) pr D nw) ng py) (nI nw) ng 0 (D 8, ld, ll, lc, gn, gc)).2.2.2.2.2) td tl fd st ca cs cb cd so bo rf of ub.1 ((mDay I F nl ne L ng gn).2.2) ub.2.1 ub.2.2.1 ub.2.2.2) _ _ _ _ ls ⟨ng, (nw + 1), tn, nl, ne, ((mBk (plF (hPay l0 lf lt nl en ef et ep ne (mLv F L) pr D nw) ng py) (nI nw) ng 0 (D 8, ld, ll, lc, gn, gc)).2.2.2.2.1), nb, ns, ua.2.1, ua.2.2.1, ua.2.2.2.1, tf, l0, lf, lt, en, ef, et, ep, pr, (plF (hPay l0 lf lt nl en ef et ep ne (mLv F L) pr D nw) ng py), ua.2.2.2.2.1, ua.2.2.2.2.2.1, ua.2.2.2.2.2.2.1, bd, bl, sd, sl, ag, ua.1, la, tk, tz, lo, wt, tv, ua.2.2.2.2.2.2.2, ((mBk (plF (hPay l0 lf lt nl en ef et ep ne (mLv F L) pr D nw) ng py) (nI nw) ng 0 (D 8, ld, ll, lc, gn, gc)).2.2.2.2.2), td, tl, fd, st, ca, cs, cb, cd, so, bo, rf, of, ub.1, ((mDay I F nl ne L ng gn).2.2), ub.2.1, ub.2.2.1, ub.2.2.2, L, rfl, (hm_jm (jm_jk hwb.2) hq.2), by rw [hq.1.2]; omega, by rw [hq.1.2]; omega⟩ h (lv_sub hl [0, 1, 2, 3, 4] rfl)
  · exact absurd (hq.1.1) c_723

set_option maxHeartbeats 4000000 in
set_option maxRecDepth 100000 in
theorem lc_line {p : Program} {l : Launch} {e : Env} {s : State} {m : MethodId} {args : Array Value} {below : List Frame} {meth : Method} {c : Code} {cells slots : Nat} {Q : State → Prop} {G : gG} {A : Nat → Prop} (C : gC p m c cL_law 8 s args wsL_law RL G A) (ad md : Nat → Nat) (ou b Ls : Nat) (xs : Nat → Int32) (hX : va_X b Ls xs s s.heap) (hbl : b < s.heap.size) (hbA : ¬ A b) (hLs : Ls ≤ 3072) (i j : Nat) (hij : i = 6 * j) (hi6 : i + 6 ≤ Ls) (ng : Nat) (nw : Nat) (tn : Nat) (nl : Nat) (ne : Nat) (gn : Nat) (nb : Nat) (ns : Nat) (l1 : Nat) (l2 : Nat) (l3 : Nat) (tf : Nat → Int32) (l0 : Nat → Int32) (lf : Nat → Int32) (lt : Nat → Int32) (en : Nat → Int32) (ef : Nat → Int32) (et : Nat → Int32) (ep : Nat → Int32) (pr : Nat → Int32) (py : Nat → Int32) (ld : Nat → Int32) (ll : Nat → Int32) (lc : Nat → Int32) (bd : Nat → Int32) (bl : Nat → Int32) (sd : Nat → Int32) (sl : Nat → Int32) (ag : Nat → Int32) (z : RS) (la : Nat → Nat) (tk : Nat → Nat) (tz : Nat → Nat) (lo : Nat → Nat) (wt : Nat → Nat) (tv : Nat → Nat → Int32) (D : Nat → Nat → Int32) (gc : Int32) (td : Int32) (tl : Int32) (fd : Int32) (st : Int32) (ca : Int32) (cs : Int32) (cb : Int32) (cd : Int32) (so : Nat → Option Nat) (bo : Nat → Option Nat) (rf : Nat → Option Nat) (of : Nat → Int64) (I : Nat → Int32) (F : Nat → Nat → Int32) (rw : Nat) (gd : Int64) (gl : Int64) (L : Nat → Nat) (hm : hmR tn tf nl l0 lf lt tz tv ne en ef et ep ng D pr gn gc ld ll lc nw nb ns bd bl sd sl td tl fd st so ca cs cb cd I F L) (hcb : cells ≤ 200 + 10 * j + ltC gn) (hsb : slots ≤ 100000 + 300 * j + ltS gn)  (kx : ∀ (W9 : va_W) (cells slots : Nat) (H : Heap) (locs : List Loc) (ls : Array Slot), lwI G ad md ou (j + 1) W9 cells slots → gS G A s W9 H locs → lv_has ls 8 [(0, .ref b), (1, .ref (ad 0)), (2, .ref (md 0)), (3, .ref ou), (4, .int (nI i))] → W p l e room_1 s m args below meth c H locs cells slots Q (F0 m 1074 ls [])) (H : Heap) (locs : List Loc) (ls : Array Slot) (h : gS G A s (lW G ad md ou ng nw tn nl ne gn nb ns l1 l2 l3 tf l0 lf lt en ef et ep pr py ld ll lc bd bl sd sl ag z la tk tz lo wt tv D gc td tl fd st ca cs cb cd so bo rf of I F rw gd gl) H locs) (hl : lv_has ls 8 [(0, .ref b), (1, .ref (ad 0)), (2, .ref (md 0)), (3, .ref ou), (4, .int (nI i))]) : W p l e room_1 s m args below meth c H locs cells slots Q (F0 m 728 ls []) := by
  have hx := C.1.1.1
  have hb := C.1.1.2.1
  have hlt := lt_b gn
  have hm9 := hm
  obtain ⟨hT, hL, hE, hG, hP, hD, hN, hB, hC⟩ := hm9
  refine lv_aload_n hx hb dL_law_728 rfl (lv_at hl 1 rfl) ?_
  refine lv_aload_n hx hb dL_law_729 rfl (lv_at hl 0 rfl) ?_
  refine lv_iload hx hb dL_law_730 (lv_at hl 4 rfl) ?_
  refine lv_iconst (v := 1) hx hb dL_law_732 (by decide) ?_
  refine lv_iadd hx hb dL_law_733 ?_
  refine lv_cgi (y := nI (i + 1)) (ni_k i 1) ?_
  refine va_sld hx hb hX hbl hbA h.2.2 (i := (nI (i + 1))) (vp_in_nI (by omega) (by omega)) dL_law_734 ?_
  refine lv_cgi (y := xs (i + 1)) (nn_at xs (by omega)) ?_
  refine lv_aload_n hx hb dL_law_735 rfl (lv_at hl 0 rfl) ?_
  refine lv_iload hx hb dL_law_736 (lv_at hl 4 rfl) ?_
  refine lv_iconst (v := 2) hx hb dL_law_738 (by decide) ?_
  refine lv_iadd hx hb dL_law_739 ?_
  refine lv_cgi (y := nI (i + 2)) (ni_k i 2) ?_
  refine va_sld hx hb hX hbl hbA h.2.2 (i := (nI (i + 2))) (vp_in_nI (by omega) (by omega)) dL_law_740 ?_
  refine lv_cgi (y := xs (i + 2)) (nn_at xs (by omega)) ?_
  have hp := (pmD px_10 : List.Perm (lW G ad md ou ng nw tn nl ne gn nb ns l1 l2 l3 tf l0 lf lt en ef et ep pr py ld ll lc bd bl sd sl ag z la tk tz lo wt tv D gc td tl fd st ca cs cb cd so bo rf of I F rw gd gl : va_W) _)
  refine k_i C h hp (r_runV C h hp 0 rfl rfl (As := [.int (xs (i + 1)), .int (xs (i + 2))]) (rest := []) (h_line l G ad ng nw l1 l2 l3 gn gc ld ll lc hD.1 (xs (i + 1)) (xs (i + 2))) (cwV 2 C.1.1.2.2.2.2 gL_law_X9_line rfl rfl rfl (by decide +kernel) ⟨Nat.le_of_ble_eq_true rfl, Nat.le_of_ble_eq_true rfl⟩) rfl hl.1 (Nat.le_of_ble_eq_true rfl) dL_law_741 ⟨by show _ ≤ 601024; omega, by show _ ≤ 7293033; omega⟩) (fun ra ua H locs hwa h => ?_)
  have h : gS G A s (lW G ad md ou ng nw tn nl ne gn nb ns l1 l2 l3 tf l0 lf lt en ef et ep pr py ld ll lc bd bl sd sl ag z la tk tz lo wt tv D gc td tl fd st ca cs cb cd so bo rf of I F rw gd gl) H locs := gS.perm h (List.Perm.symm (pmD px_10))
  refine lv_aload_n hx hb dL_law_744 rfl (lv_at hl 2 rfl) ?_
  refine lv_aload_n hx hb dL_law_745 rfl (lv_at hl 0 rfl) ?_
  refine lv_iload hx hb dL_law_746 (lv_at hl 4 rfl) ?_
  refine lv_iconst (v := 1) hx hb dL_law_748 (by decide) ?_
  refine lv_iadd hx hb dL_law_749 ?_
  refine lv_cgi (y := nI (i + 1)) (ni_k i 1) ?_
  refine va_sld hx hb hX hbl hbA h.2.2 (i := (nI (i + 1))) (vp_in_nI (by omega) (by omega)) dL_law_750 ?_
  refine lv_cgi (y := xs (i + 1)) (nn_at xs (by omega)) ?_
  refine lv_aload_n hx hb dL_law_751 rfl (lv_at hl 0 rfl) ?_
  refine lv_iload hx hb dL_law_752 (lv_at hl 4 rfl) ?_
  refine lv_iconst (v := 2) hx hb dL_law_754 (by decide) ?_
  refine lv_iadd hx hb dL_law_755 ?_
  refine lv_cgi (y := nI (i + 2)) (ni_k i 2) ?_
  refine va_sld hx hb hX hbl hbA h.2.2 (i := (nI (i + 2))) (vp_in_nI (by omega) (by omega)) dL_law_756 ?_
  refine lv_cgi (y := xs (i + 2)) (nn_at xs (by omega)) ?_
  have hp := (pmD px_1 : List.Perm (lW G ad md ou ng nw tn nl ne gn nb ns l1 l2 l3 tf l0 lf lt en ef et ep pr py ld ll lc bd bl sd sl ag z la tk tz lo wt tv D gc td tl fd st ca cs cb cd so bo rf of I F rw gd gl : va_W) _)
  refine k_i C h hp (r_runV C h hp 0 rfl rfl (As := [.int (xs (i + 1)), .int (xs (i + 2))]) (rest := [.int ra]) (m_line l G md I F rw gd gl (xs (i + 1)) (xs (i + 2)) ⟨gn, hD.1, hD.2.1⟩) (cwV 2 C.1.1.2.2.2.2 gL_law_X10_line rfl rfl rfl (by decide +kernel) ⟨Nat.le_of_ble_eq_true rfl, Nat.le_of_ble_eq_true rfl⟩) rfl hl.1 (Nat.le_of_ble_eq_true rfl) dL_law_757 ⟨by show _ ≤ 601024; omega, by show _ ≤ 7293033; omega⟩) (fun rb ub H locs hwb h => ?_)
  have h : gS G A s (lW G ad md ou ng nw tn nl ne gn nb ns l1 l2 l3 tf l0 lf lt en ef et ep pr py ld ll lc bd bl sd sl ag z la tk tz lo wt tv D gc td tl fd st ca cs cb cd so bo rf of ((mLine I F (xs (i + 1)) (xs (i + 2))).2) F rw gd gl) H locs := gS.perm h (List.Perm.symm (pmD px_1))
  have hq := la_line (xs (i + 1)) (xs (i + 2)) hm
  rw [← hwa, ← hwb] at hq
  refine lv_icmp_eq (tgt := 1074) hx hb dL_law_760 (by decide) (fun c_760 => ?_) (fun c_760 => ?_)
  · exact kx (lW G ad md ou ng nw tn nl ne gn nb ns l1 l2 l3 tf l0 lf lt en ef et ep pr py ld ll lc bd bl sd sl ag z la tk tz lo wt tv D gc td tl fd st ca cs cb cd so bo rf of ((mLine I F (xs (i + 1)) (xs (i + 2))).2) F rw gd gl) _ _ _ _ ls ⟨ng, nw, tn, nl, ne, gn, nb, ns, l1, l2, l3, tf, l0, lf, lt, en, ef, et, ep, pr, py, ld, ll, lc, bd, bl, sd, sl, ag, z, la, tk, tz, lo, wt, tv, D, gc, td, tl, fd, st, ca, cs, cb, cd, so, bo, rf, of, ((mLine I F (xs (i + 1)) (xs (i + 2))).2), F, rw, gd, gl, L, rfl, (hm_jm hq.2 hm), by omega, by omega⟩ h (lv_sub hl [0, 1, 2, 3, 4] rfl)
  · exact absurd (hq.1) c_760

set_option maxHeartbeats 4000000 in
set_option maxRecDepth 100000 in
theorem lc_habit {p : Program} {l : Launch} {e : Env} {s : State} {m : MethodId} {args : Array Value} {below : List Frame} {meth : Method} {c : Code} {cells slots : Nat} {Q : State → Prop} {G : gG} {A : Nat → Prop} (C : gC p m c cL_law 8 s args wsL_law RL G A) (ad md : Nat → Nat) (ou b Ls : Nat) (xs : Nat → Int32) (hX : va_X b Ls xs s s.heap) (hbl : b < s.heap.size) (hbA : ¬ A b) (hLs : Ls ≤ 3072) (i j : Nat) (hij : i = 6 * j) (hi6 : i + 6 ≤ Ls) (ng : Nat) (nw : Nat) (tn : Nat) (nl : Nat) (ne : Nat) (gn : Nat) (nb : Nat) (ns : Nat) (l1 : Nat) (l2 : Nat) (l3 : Nat) (tf : Nat → Int32) (l0 : Nat → Int32) (lf : Nat → Int32) (lt : Nat → Int32) (en : Nat → Int32) (ef : Nat → Int32) (et : Nat → Int32) (ep : Nat → Int32) (pr : Nat → Int32) (py : Nat → Int32) (ld : Nat → Int32) (ll : Nat → Int32) (lc : Nat → Int32) (bd : Nat → Int32) (bl : Nat → Int32) (sd : Nat → Int32) (sl : Nat → Int32) (ag : Nat → Int32) (z : RS) (la : Nat → Nat) (tk : Nat → Nat) (tz : Nat → Nat) (lo : Nat → Nat) (wt : Nat → Nat) (tv : Nat → Nat → Int32) (D : Nat → Nat → Int32) (gc : Int32) (td : Int32) (tl : Int32) (fd : Int32) (st : Int32) (ca : Int32) (cs : Int32) (cb : Int32) (cd : Int32) (so : Nat → Option Nat) (bo : Nat → Option Nat) (rf : Nat → Option Nat) (of : Nat → Int64) (I : Nat → Int32) (F : Nat → Nat → Int32) (rw : Nat) (gd : Int64) (gl : Int64) (L : Nat → Nat) (hm : hmR tn tf nl l0 lf lt tz tv ne en ef et ep ng D pr gn gc ld ll lc nw nb ns bd bl sd sl td tl fd st so ca cs cb cd I F L) (hcb : cells ≤ 200 + 10 * j + ltC gn) (hsb : slots ≤ 100000 + 300 * j + ltS gn)  (kx : ∀ (W9 : va_W) (cells slots : Nat) (H : Heap) (locs : List Loc) (ls : Array Slot), lwI G ad md ou (j + 1) W9 cells slots → gS G A s W9 H locs → lv_has ls 8 [(0, .ref b), (1, .ref (ad 0)), (2, .ref (md 0)), (3, .ref ou), (4, .int (nI i))] → W p l e room_1 s m args below meth c H locs cells slots Q (F0 m 1074 ls [])) (H : Heap) (locs : List Loc) (ls : Array Slot) (h : gS G A s (lW G ad md ou ng nw tn nl ne gn nb ns l1 l2 l3 tf l0 lf lt en ef et ep pr py ld ll lc bd bl sd sl ag z la tk tz lo wt tv D gc td tl fd st ca cs cb cd so bo rf of I F rw gd gl) H locs) (hl : lv_has ls 8 [(0, .ref b), (1, .ref (ad 0)), (2, .ref (md 0)), (3, .ref ou), (4, .int (nI i))]) : W p l e room_1 s m args below meth c H locs cells slots Q (F0 m 802 ls []) := by
  have hx := C.1.1.1
  have hb := C.1.1.2.1
  have hlt := lt_b gn
  have hm9 := hm
  obtain ⟨hT, hL, hE, hG, hP, hD, hN, hB, hC⟩ := hm9
  obtain ⟨rd9, ck9, hrc9, mrc9⟩ := rG_rc hG
  refine lv_aload_n hx hb dL_law_802 rfl (lv_at hl 1 rfl) ?_
  refine lv_aload_n hx hb dL_law_803 rfl (lv_at hl 0 rfl) ?_
  refine lv_iload hx hb dL_law_804 (lv_at hl 4 rfl) ?_
  refine lv_iconst (v := 1) hx hb dL_law_806 (by decide) ?_
  refine lv_iadd hx hb dL_law_807 ?_
  refine lv_cgi (y := nI (i + 1)) (ni_k i 1) ?_
  refine va_sld hx hb hX hbl hbA h.2.2 (i := (nI (i + 1))) (vp_in_nI (by omega) (by omega)) dL_law_808 ?_
  refine lv_cgi (y := xs (i + 1)) (nn_at xs (by omega)) ?_
  refine lv_aload_n hx hb dL_law_809 rfl (lv_at hl 0 rfl) ?_
  refine lv_iload hx hb dL_law_810 (lv_at hl 4 rfl) ?_
  refine lv_iconst (v := 2) hx hb dL_law_812 (by decide) ?_
  refine lv_iadd hx hb dL_law_813 ?_
  refine lv_cgi (y := nI (i + 2)) (ni_k i 2) ?_
  refine va_sld hx hb hX hbl hbA h.2.2 (i := (nI (i + 2))) (vp_in_nI (by omega) (by omega)) dL_law_814 ?_
  refine lv_cgi (y := xs (i + 2)) (nn_at xs (by omega)) ?_
  have hp := (pmAG px_5 : List.Perm (lW G ad md ou ng nw tn nl ne gn nb ns l1 l2 l3 tf l0 lf lt en ef et ep pr py ld ll lc bd bl sd sl ag z la tk tz lo wt tv D gc td tl fd st ca cs cb cd so bo rf of I F rw gd gl : va_W) _)
  refine k_l C h hp (r_runV C h hp 0 rfl rfl (As := [.int (xs (i + 1)), .int (xs (i + 2))]) (rest := []) (h_habit l G ad ng nw lo D rd9 ck9 hG.1 hrc9 (xs (i + 1)) (xs (i + 2))) (cwV 2 C.1.1.2.2.2.2 gL_law_X9_habit rfl rfl rfl (by decide +kernel) ⟨Nat.le_of_ble_eq_true rfl, Nat.le_of_ble_eq_true rfl⟩) rfl hl.1 (Nat.le_of_ble_eq_true rfl) dL_law_815 ⟨by show _ ≤ 601024; omega, by show _ ≤ 7293033; omega⟩) (fun ra ua H locs hwa h => ?_)
  have h : gS G A s (lW G ad md ou ng nw tn nl ne gn nb ns l1 l2 l3 tf l0 lf lt en ef et ep pr py ld ll lc bd bl sd sl ag z la tk tz lo wt tv D gc td tl fd st ca cs cb cd so bo rf of I F rw gd gl) H locs := gS.perm h (List.Perm.symm (pmAG px_5))
  refine lv_aload_n hx hb dL_law_818 rfl (lv_at hl 2 rfl) ?_
  refine lv_aload_n hx hb dL_law_819 rfl (lv_at hl 0 rfl) ?_
  refine lv_iload hx hb dL_law_820 (lv_at hl 4 rfl) ?_
  refine lv_iconst (v := 1) hx hb dL_law_822 (by decide) ?_
  refine lv_iadd hx hb dL_law_823 ?_
  refine lv_cgi (y := nI (i + 1)) (ni_k i 1) ?_
  refine va_sld hx hb hX hbl hbA h.2.2 (i := (nI (i + 1))) (vp_in_nI (by omega) (by omega)) dL_law_824 ?_
  refine lv_cgi (y := xs (i + 1)) (nn_at xs (by omega)) ?_
  refine lv_aload_n hx hb dL_law_825 rfl (lv_at hl 0 rfl) ?_
  refine lv_iload hx hb dL_law_826 (lv_at hl 4 rfl) ?_
  refine lv_iconst (v := 2) hx hb dL_law_828 (by decide) ?_
  refine lv_iadd hx hb dL_law_829 ?_
  refine lv_cgi (y := nI (i + 2)) (ni_k i 2) ?_
  refine va_sld hx hb hX hbl hbA h.2.2 (i := (nI (i + 2))) (vp_in_nI (by omega) (by omega)) dL_law_830 ?_
  refine lv_cgi (y := xs (i + 2)) (nn_at xs (by omega)) ?_
  have hp := (pmD px_1 : List.Perm (lW G ad md ou ng nw tn nl ne gn nb ns l1 l2 l3 tf l0 lf lt en ef et ep pr py ld ll lc bd bl sd sl ag z la tk tz lo wt tv D gc td tl fd st ca cs cb cd so bo rf of I F rw gd gl : va_W) _)
  refine k_l C h hp (r_runV C h hp 0 rfl rfl (As := [.int (xs (i + 1)), .int (xs (i + 2))]) (rest := [.long ra]) (m_habit l G md I F rw gd gl rd9 ck9 ng hG.2.1 hG.1 mrc9 (xs (i + 1)) (xs (i + 2))) (cwV 2 C.1.1.2.2.2.2 gL_law_X10_habit rfl rfl rfl (by decide +kernel) ⟨Nat.le_of_ble_eq_true rfl, Nat.le_of_ble_eq_true rfl⟩) rfl hl.1 (Nat.le_of_ble_eq_true rfl) dL_law_831 ⟨by show _ ≤ 601024; omega, by show _ ≤ 7293033; omega⟩) (fun rb ub H locs hwb h => ?_)
  have h : gS G A s (lW G ad md ou ng nw tn nl ne gn nb ns l1 l2 l3 tf l0 lf lt en ef et ep pr py ld ll lc bd bl sd sl ag z la tk tz lo wt tv D gc td tl fd st ca cs cb cd so bo rf of (upd I 0 0) F rw gd gl) H locs := gS.perm h (List.Perm.symm (pmD px_1))
  refine W.lcmp hx hb dL_law_834 ?_
  have hq : ra = rb := by rw [hwa, hwb]; exact la_habit hG rd9 ck9 (xs (i + 1)) (xs (i + 2))
  refine lv_if_eq (tgt := 1074) hx hb dL_law_835 (by decide) (fun c_835 => ?_) (fun c_835 => ?_)
  · rw [lg_cmp_eq] at c_835
    exact kx (lW G ad md ou ng nw tn nl ne gn nb ns l1 l2 l3 tf l0 lf lt en ef et ep pr py ld ll lc bd bl sd sl ag z la tk tz lo wt tv D gc td tl fd st ca cs cb cd so bo rf of (upd I 0 0) F rw gd gl) _ _ _ _ ls ⟨ng, nw, tn, nl, ne, gn, nb, ns, l1, l2, l3, tf, l0, lf, lt, en, ef, et, ep, pr, py, ld, ll, lc, bd, bl, sd, sl, ag, z, la, tk, tz, lo, wt, tv, D, gc, td, tl, fd, st, ca, cs, cb, cd, so, bo, rf, of, (upd I 0 0), F, rw, gd, gl, L, rfl, (hm_jm (jm_0 I 0) hm), by omega, by omega⟩ h (lv_sub hl [0, 1, 2, 3, 4] rfl)
  · exact absurd ((lg_cmp_eq _ _).mpr (hq)) c_835
