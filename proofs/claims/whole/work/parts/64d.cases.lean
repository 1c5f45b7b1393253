set_option maxHeartbeats 4000000 in
set_option maxRecDepth 100000 in
theorem lc_value0 {p : Program} {l : Launch} {e : Env} {s : State} {m : MethodId} {args : Array Value} {below : List Frame} {meth : Method} {c : Code} {cells slots : Nat} {Q : State → Prop} {G : gG} {A : Nat → Prop} (C : gC p m c cL_law 8 s args wsL_law RL G A) (ad md : Nat → Nat) (ou b Ls : Nat) (xs : Nat → Int32) (hX : va_X b Ls xs s s.heap) (hbl : b < s.heap.size) (hbA : ¬ A b) (hLs : Ls ≤ 3072) (i j : Nat) (hij : i = 6 * j) (hi6 : i + 6 ≤ Ls) (ng : Nat) (nw : Nat) (tn : Nat) (nl : Nat) (ne : Nat) (gn : Nat) (nb : Nat) (ns : Nat) (l1 : Nat) (l2 : Nat) (l3 : Nat) (tf : Nat → Int32) (l0 : Nat → Int32) (lf : Nat → Int32) (lt : Nat → Int32) (en : Nat → Int32) (ef : Nat → Int32) (et : Nat → Int32) (ep : Nat → Int32) (pr : Nat → Int32) (py : Nat → Int32) (ld : Nat → Int32) (ll : Nat → Int32) (lc : Nat → Int32) (bd : Nat → Int32) (bl : Nat → Int32) (sd : Nat → Int32) (sl : Nat → Int32) (ag : Nat → Int32) (z : RS) (la : Nat → Nat) (tk : Nat → Nat) (tz : Nat → Nat) (lo : Nat → Nat) (wt : Nat → Nat) (tv : Nat → Nat → Int32) (D : Nat → Nat → Int32) (gc : Int32) (td : Int32) (tl : Int32) (fd : Int32) (st : Int32) (ca : Int32) (cs : Int32) (cb : Int32) (cd : Int32) (so : Nat → Option Nat) (bo : Nat → Option Nat) (rf : Nat → Option Nat) (of : Nat → Int64) (I : Nat → Int32) (F : Nat → Nat → Int32) (rw : Nat) (gd : Int64) (gl : Int64) (L : Nat → Nat) (hm : hmR tn tf nl l0 lf lt tz tv ne en ef et ep ng D pr gn gc ld ll lc nw nb ns bd bl sd sl td tl fd st so ca cs cb cd I F L) (hcb : cells ≤ 200 + 10 * j + ltC gn) (hsb : slots ≤ 100000 + 300 * j + ltS gn) (k : Nat) (ek : (xs (i + 1)) = nI k) (hk : k < nl) (hd9 : ¬ mIn (xs (i + 2)) 0 1000 = 0) (hl9 : ¬ mIn (xs (i + 3)) 0 1000 = 0) (kx : ∀ (W9 : va_W) (cells slots : Nat) (H : Heap) (locs : List Loc) (ls : Array Slot), lwI G ad md ou (j + 1) W9 cells slots → gS G A s W9 H locs → lv_has ls 8 [(0, .ref b), (1, .ref (ad 0)), (2, .ref (md 0)), (3, .ref ou), (4, .int (nI i))] → W p l e room_1 s m args below meth c H locs cells slots Q (F0 m 1074 ls [])) (H : Heap) (locs : List Loc) (ls : Array Slot) (h : gS G A s (lW G ad md ou ng nw tn nl ne gn nb ns l1 l2 l3 tf l0 lf lt en ef et ep pr py ld ll lc bd bl sd sl ag z la tk tz lo wt tv D gc td tl fd st ca cs cb cd so bo rf of I F rw gd gl) H locs) (hl : lv_has ls 8 [(0, .ref b), (1, .ref (ad 0)), (2, .ref (md 0)), (3, .ref ou), (4, .int (nI i))]) : W p l e room_1 s m args below meth c H locs cells slots Q (F0 m 292 ls []) := by
  have hx := C.1.1.1
  have hb := C.1.1.2.1
  have hlt := lt_b gn
  have hm9 := hm
  obtain ⟨hT, hL, hE, hG, hP, hD, hN, hB, hC⟩ := hm9
  refine lv_aload_n hx hb dL_law_292 rfl (lv_at hl 1 rfl) ?_
  refine lv_aload_n hx hb dL_law_293 rfl (lv_at hl 0 rfl) ?_
  refine lv_iload hx hb dL_law_294 (lv_at hl 4 rfl) ?_
  refine lv_iconst (v := 1) hx hb dL_law_296 (by decide) ?_
  refine lv_iadd hx hb dL_law_297 ?_
  refine lv_cgi (y := nI (i + 1)) (ni_k i 1) ?_
  refine va_sld hx hb hX hbl hbA h.2.2 (i := (nI (i + 1))) (vp_in_nI (by omega) (by omega)) dL_law_298 ?_
  refine lv_cgi (y := xs (i + 1)) (nn_at xs (by omega)) ?_
  refine lv_cgi (y := (nI k)) (ek) ?_
  refine lv_aload_n hx hb dL_law_299 rfl (lv_at hl 0 rfl) ?_
  refine lv_iload hx hb dL_law_300 (lv_at hl 4 rfl) ?_
  refine lv_iconst (v := 2) hx hb dL_law_302 (by decide) ?_
  refine lv_iadd hx hb dL_law_303 ?_
  refine lv_cgi (y := nI (i + 2)) (ni_k i 2) ?_
  refine va_sld hx hb hX hbl hbA h.2.2 (i := (nI (i + 2))) (vp_in_nI (by omega) (by omega)) dL_law_304 ?_
  refine lv_cgi (y := xs (i + 2)) (nn_at xs (by omega)) ?_
  refine lv_aload_n hx hb dL_law_305 rfl (lv_at hl 0 rfl) ?_
  refine lv_iload hx hb dL_law_306 (lv_at hl 4 rfl) ?_
  refine lv_iconst (v := 3) hx hb dL_law_308 (by decide) ?_
  refine lv_iadd hx hb dL_law_309 ?_
  refine lv_cgi (y := nI (i + 3)) (ni_k i 3) ?_
  refine va_sld hx hb hX hbl hbA h.2.2 (i := (nI (i + 3))) (vp_in_nI (by omega) (by omega)) dL_law_310 ?_
  refine lv_cgi (y := xs (i + 3)) (nn_at xs (by omega)) ?_
  refine lv_aload_n hx hb dL_law_311 rfl (lv_at hl 3 rfl) ?_
  have hp := (pmAT px_14 : List.Perm (lW G ad md ou ng nw tn nl ne gn nb ns l1 l2 l3 tf l0 lf lt en ef et ep pr py ld ll lc bd bl sd sl ag z la tk tz lo wt tv D gc td tl fd st ca cs cb cd so bo rf of I F rw gd gl : va_W) _)
  refine k_i C h hp (r_runSW C h hp (As := [.ref (ad 0), .int (nI k), .int (xs (i + 2)), .int (xs (i + 3)), .ref ou]) (rest := []) (hL_value0 l G ad ng nw nl ne l0 lf lt la tk tz tv ep (mLv F L) (rL_S hL hE hG) z ou of k hk (xs (i + 2)) (xs (i + 3)) hd9 hl9) (vx_cwSW (hh := [(0, 11, 14, 13)]) 5 C.1.1.2.2.2.2 gL_law_L_value rfl rfl rfl (by decide +kernel) ⟨Nat.le_of_ble_eq_true rfl, Nat.le_of_ble_eq_true rfl⟩) rfl hl.1 (Nat.le_of_ble_eq_true rfl) dL_law_312 ⟨by show _ ≤ 601024; omega, by show _ ≤ 7293033; omega⟩) (fun ra ua H locs hwa h => ?_)
  have h : gS G A s (lW G ad md ou ng nw tn nl ne gn nb ns l1 l2 l3 tf l0 lf lt en ef et ep pr py ld ll lc bd bl sd sl ag ua la tk tz lo wt tv D gc td tl fd st ca cs cb cd so bo rf (vp_updL of 0 (mLv F L k (xs (i + 2)) (xs (i + 3)))) I F rw gd gl) H locs := gS.perm h (List.Perm.symm (pmAT px_14))
  refine lv_istore (lv' := [(5, .int ra), (0, .ref b), (1, .ref (ad 0)), (2, .ref (md 0)), (3, .ref ou), (4, .int (nI i))]) hx hb dL_law_315 hl (by decide) rfl (fun ls hl => ?_)
  refine lv_aload_n hx hb dL_law_317 rfl (lv_at hl 3 rfl) ?_
  refine lv_aload_n hx hb dL_law_318 rfl (lv_at hl 1 rfl) ?_
  refine lv_iload hx hb dL_law_319 (lv_at hl 5 rfl) ?_
  refine lv_iconst (v := 1) hx hb dL_law_321 (by decide) ?_
  refine lv_iadd hx hb dL_law_322 ?_
  refine lv_cgi (y := nI (i + 1)) (ni_k i 1) ?_
  refine va_sld hx hb hX hbl hbA h.2.2 (i := (nI (i + 1))) (vp_in_nI (by omega) (by omega)) dL_law_323 ?_
  refine lv_cgi (y := xs (i + 1)) (nn_at xs (by omega)) ?_
  refine lv_cgi (y := (nI k)) (ek) ?_
  refine lv_aload_n hx hb dL_law_324 rfl (lv_at hl 1 rfl) ?_
  refine lv_iload hx hb dL_law_325 (lv_at hl 5 rfl) ?_
  refine lv_iconst (v := 2) hx hb dL_law_327 (by decide) ?_
  refine lv_iadd hx hb dL_law_328 ?_
  refine lv_cgi (y := nI (i + 2)) (ni_k i 2) ?_
  refine va_sld hx hb hX hbl hbA h.2.2 (i := (nI (i + 2))) (vp_in_nI (by omega) (by omega)) dL_law_329 ?_
  refine lv_cgi (y := xs (i + 2)) (nn_at xs (by omega)) ?_
  refine lv_aload_n hx hb dL_law_330 rfl (lv_at hl 1 rfl) ?_
  refine lv_iload hx hb dL_law_331 (lv_at hl 5 rfl) ?_
  refine lv_iconst (v := 3) hx hb dL_law_333 (by decide) ?_
  refine lv_iadd hx hb dL_law_334 ?_
  refine lv_cgi (y := nI (i + 3)) (ni_k i 3) ?_
  refine va_sld hx hb hX hbl hbA h.2.2 (i := (nI (i + 3))) (vp_in_nI (by omega) (by omega)) dL_law_335 ?_
  refine lv_cgi (y := xs (i + 3)) (nn_at xs (by omega)) ?_
  have hp := (pmD px_1 : List.Perm (lW G ad md ou ng nw tn nl ne gn nb ns l1 l2 l3 tf l0 lf lt en ef et ep pr py ld ll lc bd bl sd sl ag ua la tk tz lo wt tv D gc td tl fd st ca cs cb cd so bo rf (vp_updL of 0 (mLv F L k (xs (i + 2)) (xs (i + 3)))) I F rw gd gl : va_W) _)
  refine k_l C h hp (r_runV C h hp 0 rfl rfl (As := [.int (nI k), .int (xs (i + 2)), .int (xs (i + 3))]) (rest := []) (m_value l G md I F rw gd gl nl L hL.2.1 (rL_ls hL) hL.1 (nI k) (xs (i + 2)) (xs (i + 3))) (cwV 3 C.1.1.2.2.2.2 gL_law_X10_value rfl rfl rfl (by decide +kernel) ⟨Nat.le_of_ble_eq_true rfl, Nat.le_of_ble_eq_true rfl⟩) rfl hl.1 (Nat.le_of_ble_eq_true rfl) dL_law_336 ⟨by show _ ≤ 601024; omega, by show _ ≤ 7293033; omega⟩) (fun rb ub H locs hwb h => ?_)
  have h : gS G A s (lW G ad md ou ng nw tn nl ne gn nb ns l1 l2 l3 tf l0 lf lt en ef et ep pr py ld ll lc bd bl sd sl ag ua la tk tz lo wt tv D gc td tl fd st ca cs cb cd so bo rf (vp_updL of 0 (mLv F L k (xs (i + 2)) (xs (i + 3)))) ub.1 F ub.2.1 ub.2.2.1 ub.2.2.2) H locs := gS.perm h (List.Perm.symm (pmD px_1))
  refine lv_lstore (lv' := [(6, .long rb), (5, .int ra), (0, .ref b), (1, .ref (ad 0)), (2, .ref (md 0)), (3, .ref ou), (4, .int (nI i))]) hx hb dL_law_339 hl (by decide) rfl (fun ls hl => ?_)
  refine lv_aload_n hx hb dL_law_341 rfl (lv_at hl 4 rfl) ?_
  have hp := (pmD px_1 : List.Perm (lW G ad md ou ng nw tn nl ne gn nb ns l1 l2 l3 tf l0 lf lt en ef et ep pr py ld ll lc bd bl sd sl ag ua la tk tz lo wt tv D gc td tl fd st ca cs cb cd so bo rf (vp_updL of 0 (mLv F L k (xs (i + 2)) (xs (i + 3)))) ub.1 F ub.2.1 ub.2.2.1 ub.2.2.2 : va_W) _)
  refine k_i C h hp (r_runV C h hp 0 rfl rfl (As := []) (rest := []) (m_thrown l G md ub.1 F ub.2.1 ub.2.2.1 ub.2.2.2) (cwV 0 C.1.1.2.2.2.2 gL_law_X10_thrown rfl rfl rfl (by decide +kernel) ⟨Nat.le_of_ble_eq_true rfl, Nat.le_of_ble_eq_true rfl⟩) rfl hl.1 (Nat.le_of_ble_eq_true rfl) dL_law_342 ⟨by show _ ≤ 601024; omega, by show _ ≤ 7293033; omega⟩) (fun rq uq H locs hwq h => ?_)
  have h : gS G A s (lW G ad md ou ng nw tn nl ne gn nb ns l1 l2 l3 tf l0 lf lt en ef et ep pr py ld ll lc bd bl sd sl ag ua la tk tz lo wt tv D gc td tl fd st ca cs cb cd so bo rf (vp_updL of 0 (mLv F L k (xs (i + 2)) (xs (i + 3)))) ub.1 F ub.2.1 ub.2.2.1 ub.2.2.2) H locs := gS.perm h (List.Perm.symm (pmD px_1))
  refine lv_iload hx hb dL_law_345 (lv_at hl 1 rfl) ?_
  have hv := hwb.2 (by rw [hL.2.1]; exact mVok_1 hk hL.1 hd9 hl9)
  have hq : rq = ra := by
    rw [hwq, hwa]
    show ub.1 0 = 0
    rw [hv.1 0 (by decide)]
    rfl
  refine lv_icmp_eq (tgt := 352) hx hb dL_law_347 (by decide) (fun c_347 => ?_) (fun c_347 => ?_)
  · refine lv_iload hx hb dL_law_352 (lv_at hl 1 rfl) ?_
    refine lv_if_ne (tgt := 368) hx hb dL_law_354 (by decide) (fun c_354 => ?_) (fun c_354 => ?_)
    · exact absurd hwa c_354
    · refine lv_aload_n hx hb dL_law_357 rfl (lv_at hl 5 rfl) ?_
      refine lv_iconst (v := 0) hx hb dL_law_358 (by decide) ?_
      refine r_lald C h 67 rfl (i := 0) (show vp_in (nI 0) 1 from vp_in_nI (by omega) (by decide)) dL_law_359 ?_
      refine lv_cgl (y := (mLv F L k (xs (i + 2)) (xs (i + 3)))) (rfl) ?_
      refine lv_lload hx hb dL_law_360 (lv_at hl 0 rfl) ?_
      refine W.lcmp hx hb dL_law_362 ?_
      refine lv_if_eq (tgt := 368) hx hb dL_law_363 (by decide) (fun c_363 => ?_) (fun c_363 => ?_)
      · rw [lg_cmp_eq] at c_363
        refine lv_goto (tgt := 1074) hx hb dL_law_368 (by decide) ?_
        exact kx (lW G ad md ou ng nw tn nl ne gn nb ns l1 l2 l3 tf l0 lf lt en ef et ep pr py ld ll lc bd bl sd sl ag ua la tk tz lo wt tv D gc td tl fd st ca cs cb cd so bo rf (vp_updL of 0 (mLv F L k (xs (i + 2)) (xs (i + 3)))) ub.1 F ub.2.1 ub.2.2.1 ub.2.2.2) _ _ _ _ ls ⟨ng, nw, tn, nl, ne, gn, nb, ns, l1, l2, l3, tf, l0, lf, lt, en, ef, et, ep, pr, py, ld, ll, lc, bd, bl, sd, sl, ag, ua, la, tk, tz, lo, wt, tv, D, gc, td, tl, fd, st, ca, cs, cb, cd, so, bo, rf, (vp_updL of 0 (mLv F L k (xs (i + 2)) (xs (i + 3)))), ub.1, F, ub.2.1, ub.2.2.1, ub.2.2.2, L, rfl, (hm_jm (jm_th hv.1) hm), by omega, by omega⟩ h (lv_sub hl [2, 3, 4, 5, 6] rfl)
      · exact absurd ((lg_cmp_eq _ _).mpr (hv.2 k hk rfl).symm) c_363
  · exact absurd hq c_347

set_option maxHeartbeats 4000000 in
set_option maxRecDepth 100000 in
theorem lc_value1 {p : Program} {l : Launch} {e : Env} {s : State} {m : MethodId} {args : Array Value} {below : List Frame} {meth : Method} {c : Code} {cells slots : Nat} {Q : State → Prop} {G : gG} {A : Nat → Prop} (C : gC p m c cL_law 8 s args wsL_law RL G A) (ad md : Nat → Nat) (ou b Ls : Nat) (xs : Nat → Int32) (hX : va_X b Ls xs s s.heap) (hbl : b < s.heap.size) (hbA : ¬ A b) (hLs : Ls ≤ 3072) (i j : Nat) (hij : i = 6 * j) (hi6 : i + 6 ≤ Ls) (ng : Nat) (nw : Nat) (tn : Nat) (nl : Nat) (ne : Nat) (gn : Nat) (nb : Nat) (ns : Nat) (l1 : Nat) (l2 : Nat) (l3 : Nat) (tf : Nat → Int32) (l0 : Nat → Int32) (lf : Nat → Int32) (lt : Nat → Int32) (en : Nat → Int32) (ef : Nat → Int32) (et : Nat → Int32) (ep : Nat → Int32) (pr : Nat → Int32) (py : Nat → Int32) (ld : Nat → Int32) (ll : Nat → Int32) (lc : Nat → Int32) (bd : Nat → Int32) (bl : Nat → Int32) (sd : Nat → Int32) (sl : Nat → Int32) (ag : Nat → Int32) (z : RS) (la : Nat → Nat) (tk : Nat → Nat) (tz : Nat → Nat) (lo : Nat → Nat) (wt : Nat → Nat) (tv : Nat → Nat → Int32) (D : Nat → Nat → Int32) (gc : Int32) (td : Int32) (tl : Int32) (fd : Int32) (st : Int32) (ca : Int32) (cs : Int32) (cb : Int32) (cd : Int32) (so : Nat → Option Nat) (bo : Nat → Option Nat) (rf : Nat → Option Nat) (of : Nat → Int64) (I : Nat → Int32) (F : Nat → Nat → Int32) (rw : Nat) (gd : Int64) (gl : Int64) (L : Nat → Nat) (hm : hmR tn tf nl l0 lf lt tz tv ne en ef et ep ng D pr gn gc ld ll lc nw nb ns bd bl sd sl td tl fd st so ca cs cb cd I F L) (hcb : cells ≤ 200 + 10 * j + ltC gn) (hsb : slots ≤ 100000 + 300 * j + ltS gn) (hst : l.stackTraces = false) (hxk : xK A s s.heap) (hbad : mIn (xs (i + 1)) 0 (nI nl - 1) = 0 ∨ mIn (xs (i + 2)) 0 1000 = 0 ∨ mIn (xs (i + 3)) 0 1000 = 0) (kx : ∀ (W9 : va_W) (cells slots : Nat) (H : Heap) (locs : List Loc) (ls : Array Slot), lwI G ad md ou (j + 1) W9 cells slots → gS G A s W9 H locs → lv_has ls 8 [(0, .ref b), (1, .ref (ad 0)), (2, .ref (md 0)), (3, .ref ou), (4, .int (nI i))] → W p l e room_1 s m args below meth c H locs cells slots Q (F0 m 1074 ls [])) (H : Heap) (locs : List Loc) (ls : Array Slot) (h : gS G A s (lW G ad md ou ng nw tn nl ne gn nb ns l1 l2 l3 tf l0 lf lt en ef et ep pr py ld ll lc bd bl sd sl ag z la tk tz lo wt tv D gc td tl fd st ca cs cb cd so bo rf of I F rw gd gl) H locs) (hl : lv_has ls 8 [(0, .ref b), (1, .ref (ad 0)), (2, .ref (md 0)), (3, .ref ou), (4, .int (nI i))]) : W p l e room_1 s m args below meth c H locs cells slots Q (F0 m 292 ls []) := by
  have hx := C.1.1.1
  have hb := C.1.1.2.1
  have hlt := lt_b gn
  have hm9 := hm
  obtain ⟨hT, hL, hE, hG, hP, hD, hN, hB, hC⟩ := hm9
  refine lv_aload_n hx hb dL_law_292 rfl (lv_at hl 1 rfl) ?_
  refine lv_aload_n hx hb dL_law_293 rfl (lv_at hl 0 rfl) ?_
  refine lv_iload hx hb dL_law_294 (lv_at hl 4 rfl) ?_
  refine lv_iconst (v := 1) hx hb dL_law_296 (by decide) ?_
  refine lv_iadd hx hb dL_law_297 ?_
  refine lv_cgi (y := nI (i + 1)) (ni_k i 1) ?_
  refine va_sld hx hb hX hbl hbA h.2.2 (i := (nI (i + 1))) (vp_in_nI (by omega) (by omega)) dL_law_298 ?_
  refine lv_cgi (y := xs (i + 1)) (nn_at xs (by omega)) ?_
  refine lv_aload_n hx hb dL_law_299 rfl (lv_at hl 0 rfl) ?_
  refine lv_iload hx hb dL_law_300 (lv_at hl 4 rfl) ?_
  refine lv_iconst (v := 2) hx hb dL_law_302 (by decide) ?_
  refine lv_iadd hx hb dL_law_303 ?_
  refine lv_cgi (y := nI (i + 2)) (ni_k i 2) ?_
  refine va_sld hx hb hX hbl hbA h.2.2 (i := (nI (i + 2))) (vp_in_nI (by omega) (by omega)) dL_law_304 ?_
  refine lv_cgi (y := xs (i + 2)) (nn_at xs (by omega)) ?_
  refine lv_aload_n hx hb dL_law_305 rfl (lv_at hl 0 rfl) ?_
  refine lv_iload hx hb dL_law_306 (lv_at hl 4 rfl) ?_
  refine lv_iconst (v := 3) hx hb dL_law_308 (by decide) ?_
  refine lv_iadd hx hb dL_law_309 ?_
  refine lv_cgi (y := nI (i + 3)) (ni_k i 3) ?_
  refine va_sld hx hb hX hbl hbA h.2.2 (i := (nI (i + 3))) (vp_in_nI (by omega) (by omega)) dL_law_310 ?_
  refine lv_cgi (y := xs (i + 3)) (nn_at xs (by omega)) ?_
  refine lv_aload_n hx hb dL_law_311 rfl (lv_at hl 3 rfl) ?_
  have hp := (pmD px_15 : List.Perm (lW G ad md ou ng nw tn nl ne gn nb ns l1 l2 l3 tf l0 lf lt en ef et ep pr py ld ll lc bd bl sd sl ag z la tk tz lo wt tv D gc td tl fd st ca cs cb cd so bo rf of I F rw gd gl : va_W) _)
  refine k_i C h hp (r_runSZ C h hp hxk (As := [.ref (ad 0), .int (xs (i + 1)), .int (xs (i + 2)), .int (xs (i + 3)), .ref ou]) (rest := []) (hL_value1 l hst G ad ng nw nl l0 lf lt ou of (xs (i + 1)) (xs (i + 2)) (xs (i + 3)) hbad) (vx_cwSW (hh := [(0, 11, 14, 13)]) 5 C.1.1.2.2.2.2 gL_law_L_value rfl rfl rfl (by decide +kernel) ⟨Nat.le_of_ble_eq_true rfl, Nat.le_of_ble_eq_true rfl⟩) rfl hl.1 (Nat.le_of_ble_eq_true rfl) dL_law_312 ⟨by show _ ≤ 601024; omega, by show _ ≤ 7293033; omega⟩) (fun ra ua H locs hwa h => ?_)
  have h : gS G A s (lW G ad md ou ng nw tn nl ne gn nb ns l1 l2 l3 tf l0 lf lt en ef et ep pr py ld ll lc bd bl sd sl ag z la tk tz lo wt tv D gc td tl fd st ca cs cb cd so bo rf of I F rw gd gl) H locs := gS.perm h (List.Perm.symm (pmD px_15))
  refine lv_istore (lv' := [(5, .int ra), (0, .ref b), (1, .ref (ad 0)), (2, .ref (md 0)), (3, .ref ou), (4, .int (nI i))]) hx hb dL_law_315 hl (by decide) rfl (fun ls hl => ?_)
  refine lv_aload_n hx hb dL_law_317 rfl (lv_at hl 3 rfl) ?_
  refine lv_aload_n hx hb dL_law_318 rfl (lv_at hl 1 rfl) ?_
  refine lv_iload hx hb dL_law_319 (lv_at hl 5 rfl) ?_
  refine lv_iconst (v := 1) hx hb dL_law_321 (by decide) ?_
  refine lv_iadd hx hb dL_law_322 ?_
  refine lv_cgi (y := nI (i + 1)) (ni_k i 1) ?_
  refine va_sld hx hb hX hbl hbA h.2.2 (i := (nI (i + 1))) (vp_in_nI (by omega) (by omega)) dL_law_323 ?_
  refine lv_cgi (y := xs (i + 1)) (nn_at xs (by omega)) ?_
  refine lv_aload_n hx hb dL_law_324 rfl (lv_at hl 1 rfl) ?_
  refine lv_iload hx hb dL_law_325 (lv_at hl 5 rfl) ?_
  refine lv_iconst (v := 2) hx hb dL_law_327 (by decide) ?_
  refine lv_iadd hx hb dL_law_328 ?_
  refine lv_cgi (y := nI (i + 2)) (ni_k i 2) ?_
  refine va_sld hx hb hX hbl hbA h.2.2 (i := (nI (i + 2))) (vp_in_nI (by omega) (by omega)) dL_law_329 ?_
  refine lv_cgi (y := xs (i + 2)) (nn_at xs (by omega)) ?_
  refine lv_aload_n hx hb dL_law_330 rfl (lv_at hl 1 rfl) ?_
  refine lv_iload hx hb dL_law_331 (lv_at hl 5 rfl) ?_
  refine lv_iconst (v := 3) hx hb dL_law_333 (by decide) ?_
  refine lv_iadd hx hb dL_law_334 ?_
  refine lv_cgi (y := nI (i + 3)) (ni_k i 3) ?_
  refine va_sld hx hb hX hbl hbA h.2.2 (i := (nI (i + 3))) (vp_in_nI (by omega) (by omega)) dL_law_335 ?_
  refine lv_cgi (y := xs (i + 3)) (nn_at xs (by omega)) ?_
  have hp := (pmD px_1 : List.Perm (lW G ad md ou ng nw tn nl ne gn nb ns l1 l2 l3 tf l0 lf lt en ef et ep pr py ld ll lc bd bl sd sl ag z la tk tz lo wt tv D gc td tl fd st ca cs cb cd so bo rf of I F rw gd gl : va_W) _)
  refine k_l C h hp (r_runV C h hp 0 rfl rfl (As := [.int (xs (i + 1)), .int (xs (i + 2)), .int (xs (i + 3))]) (rest := []) (m_value l G md I F rw gd gl nl L hL.2.1 (rL_ls hL) hL.1 (xs (i + 1)) (xs (i + 2)) (xs (i + 3))) (cwV 3 C.1.1.2.2.2.2 gL_law_X10_value rfl rfl rfl (by decide +kernel) ⟨Nat.le_of_ble_eq_true rfl, Nat.le_of_ble_eq_true rfl⟩) rfl hl.1 (Nat.le_of_ble_eq_true rfl) dL_law_336 ⟨by show _ ≤ 601024; omega, by show _ ≤ 7293033; omega⟩) (fun rb ub H locs hwb h => ?_)
  have h : gS G A s (lW G ad md ou ng nw tn nl ne gn nb ns l1 l2 l3 tf l0 lf lt en ef et ep pr py ld ll lc bd bl sd sl ag z la tk tz lo wt tv D gc td tl fd st ca cs cb cd so bo rf of ub.1 F ub.2.1 ub.2.2.1 ub.2.2.2) H locs := gS.perm h (List.Perm.symm (pmD px_1))
  refine lv_lstore (lv' := [(6, .long rb), (5, .int ra), (0, .ref b), (1, .ref (ad 0)), (2, .ref (md 0)), (3, .ref ou), (4, .int (nI i))]) hx hb dL_law_339 hl (by decide) rfl (fun ls hl => ?_)
  refine lv_aload_n hx hb dL_law_341 rfl (lv_at hl 4 rfl) ?_
  have hp := (pmD px_1 : List.Perm (lW G ad md ou ng nw tn nl ne gn nb ns l1 l2 l3 tf l0 lf lt en ef et ep pr py ld ll lc bd bl sd sl ag z la tk tz lo wt tv D gc td tl fd st ca cs cb cd so bo rf of ub.1 F ub.2.1 ub.2.2.1 ub.2.2.2 : va_W) _)
  refine k_i C h hp (r_runV C h hp 0 rfl rfl (As := []) (rest := []) (m_thrown l G md ub.1 F ub.2.1 ub.2.2.1 ub.2.2.2) (cwV 0 C.1.1.2.2.2.2 gL_law_X10_thrown rfl rfl rfl (by decide +kernel) ⟨Nat.le_of_ble_eq_true rfl, Nat.le_of_ble_eq_true rfl⟩) rfl hl.1 (Nat.le_of_ble_eq_true rfl) dL_law_342 ⟨by show _ ≤ 601024; omega, by show _ ≤ 7293033; omega⟩) (fun rq uq H locs hwq h => ?_)
  have h : gS G A s (lW G ad md ou ng nw tn nl ne gn nb ns l1 l2 l3 tf l0 lf lt en ef et ep pr py ld ll lc bd bl sd sl ag z la tk tz lo wt tv D gc td tl fd st ca cs cb cd so bo rf of ub.1 F ub.2.1 ub.2.2.1 ub.2.2.2) H locs := gS.perm h (List.Perm.symm (pmD px_1))
  refine lv_iload hx hb dL_law_345 (lv_at hl 1 rfl) ?_
  have hv := hwb.1 (by rw [hL.2.1]; exact mVok_0 hbad)
  have hq : rq = ra := by
    rw [hwq, hwa]
    show ub.1 0 = 1
    rw [hv 0 (by decide)]
    rfl
  refine lv_icmp_eq (tgt := 352) hx hb dL_law_347 (by decide) (fun c_347 => ?_) (fun c_347 => ?_)
  · refine lv_iload hx hb dL_law_352 (lv_at hl 1 rfl) ?_
    refine lv_if_ne (tgt := 368) hx hb dL_law_354 (by decide) (fun c_354 => ?_) (fun c_354 => ?_)
    · refine lv_goto (tgt := 1074) hx hb dL_law_368 (by decide) ?_
      exact kx (lW G ad md ou ng nw tn nl ne gn nb ns l1 l2 l3 tf l0 lf lt en ef et ep pr py ld ll lc bd bl sd sl ag z la tk tz lo wt tv D gc td tl fd st ca cs cb cd so bo rf of ub.1 F ub.2.1 ub.2.2.1 ub.2.2.2) _ _ _ _ ls ⟨ng, nw, tn, nl, ne, gn, nb, ns, l1, l2, l3, tf, l0, lf, lt, en, ef, et, ep, pr, py, ld, ll, lc, bd, bl, sd, sl, ag, z, la, tk, tz, lo, wt, tv, D, gc, td, tl, fd, st, ca, cs, cb, cd, so, bo, rf, of, ub.1, F, ub.2.1, ub.2.2.1, ub.2.2.2, L, rfl, (hm_jm (jm_th hv) hm), by omega, by omega⟩ h (lv_sub hl [2, 3, 4, 5, 6] rfl)
    · rw [hwa] at c_354
      exact absurd c_354 (by decide)
  · exact absurd hq c_347

set_option maxHeartbeats 4000000 in
set_option maxRecDepth 100000 in
theorem lc_lawN {p : Program} {l : Launch} {e : Env} {s : State} {m : MethodId} {args : Array Value} {below : List Frame} {meth : Method} {c : Code} {cells slots : Nat} {Q : State → Prop} {G : gG} {A : Nat → Prop} (C : gC p m c cL_law 8 s args wsL_law RL G A) (ad md : Nat → Nat) (ou b Ls : Nat) (xs : Nat → Int32) (hX : va_X b Ls xs s s.heap) (hbl : b < s.heap.size) (hbA : ¬ A b) (hLs : Ls ≤ 3072) (i j : Nat) (hij : i = 6 * j) (hi6 : i + 6 ≤ Ls) (ng : Nat) (nw : Nat) (tn : Nat) (nl : Nat) (ne : Nat) (gn : Nat) (nb : Nat) (ns : Nat) (l1 : Nat) (l2 : Nat) (l3 : Nat) (tf : Nat → Int32) (l0 : Nat → Int32) (lf : Nat → Int32) (lt : Nat → Int32) (en : Nat → Int32) (ef : Nat → Int32) (et : Nat → Int32) (ep : Nat → Int32) (pr : Nat → Int32) (py : Nat → Int32) (ld : Nat → Int32) (ll : Nat → Int32) (lc : Nat → Int32) (bd : Nat → Int32) (bl : Nat → Int32) (sd : Nat → Int32) (sl : Nat → Int32) (ag : Nat → Int32) (z : RS) (la : Nat → Nat) (tk : Nat → Nat) (tz : Nat → Nat) (lo : Nat → Nat) (wt : Nat → Nat) (tv : Nat → Nat → Int32) (D : Nat → Nat → Int32) (gc : Int32) (td : Int32) (tl : Int32) (fd : Int32) (st : Int32) (ca : Int32) (cs : Int32) (cb : Int32) (cd : Int32) (so : Nat → Option Nat) (bo : Nat → Option Nat) (rf : Nat → Option Nat) (of : Nat → Int64) (I : Nat → Int32) (F : Nat → Nat → Int32) (rw : Nat) (gd : Int64) (gl : Int64) (L : Nat → Nat) (hm : hmR tn tf nl l0 lf lt tz tv ne en ef et ep ng D pr gn gc ld ll lc nw nb ns bd bl sd sl td tl fd st so ca cs cb cd I F L) (hcb : cells ≤ 200 + 10 * j + ltC gn) (hsb : slots ≤ 100000 + 300 * j + ltS gn) (hok : hLwok nl (xs (i + 1)) tf tn = false) (kx : ∀ (W9 : va_W) (cells slots : Nat) (H : Heap) (locs : List Loc) (ls : Array Slot), lwI G ad md ou (j + 1) W9 cells slots → gS G A s W9 H locs → lv_has ls 8 [(0, .ref b), (1, .ref (ad 0)), (2, .ref (md 0)), (3, .ref ou), (4, .int (nI i))] → W p l e room_1 s m args below meth c H locs cells slots Q (F0 m 1074 ls [])) (H : Heap) (locs : List Loc) (ls : Array Slot) (h : gS G A s (lW G ad md ou ng nw tn nl ne gn nb ns l1 l2 l3 tf l0 lf lt en ef et ep pr py ld ll lc bd bl sd sl ag z la tk tz lo wt tv D gc td tl fd st ca cs cb cd so bo rf of I F rw gd gl) H locs) (hl : lv_has ls 8 [(0, .ref b), (1, .ref (ad 0)), (2, .ref (md 0)), (3, .ref ou), (4, .int (nI i))]) : W p l e room_1 s m args below meth c H locs cells slots Q (F0 m 267 ls []) := by
  have hx := C.1.1.1
  have hb := C.1.1.2.1
  have hlt := lt_b gn
  have hm9 := hm
  obtain ⟨hT, hL, hE, hG, hP, hD, hN, hB, hC⟩ := hm9
  refine lv_aload_n hx hb dL_law_267 rfl (lv_at hl 1 rfl) ?_
  refine lv_aload_n hx hb dL_law_268 rfl (lv_at hl 0 rfl) ?_
  refine lv_iload hx hb dL_law_269 (lv_at hl 4 rfl) ?_
  refine lv_iconst (v := 1) hx hb dL_law_271 (by decide) ?_
  refine lv_iadd hx hb dL_law_272 ?_
  refine lv_cgi (y := nI (i + 1)) (ni_k i 1) ?_
  refine va_sld hx hb hX hbl hbA h.2.2 (i := (nI (i + 1))) (vp_in_nI (by omega) (by omega)) dL_law_273 ?_
  refine lv_cgi (y := xs (i + 1)) (nn_at xs (by omega)) ?_
  have hp := (pmD px_16 : List.Perm (lW G ad md ou ng nw tn nl ne gn nb ns l1 l2 l3 tf l0 lf lt en ef et ep pr py ld ll lc bd bl sd sl ag z la tk tz lo wt tv D gc td tl fd st ca cs cb cd so bo rf of I F rw gd gl : va_W) _)
  refine k_i C h hp (r_runV C h hp 0 rfl rfl (As := [.int (xs (i + 1))]) (rest := []) (h_lawN l G ad ng nw tn tf nl l0 lf lt (xs (i + 1)) hL.1 hT.1 hok) (cwV 1 C.1.1.2.2.2.2 gL_law_X9_law rfl rfl rfl (by decide +kernel) ⟨Nat.le_of_ble_eq_true rfl, Nat.le_of_ble_eq_true rfl⟩) rfl hl.1 (Nat.le_of_ble_eq_true rfl) dL_law_274 ⟨by show _ ≤ 601024; omega, by show _ ≤ 7293033; omega⟩) (fun ra ua H locs hwa h => ?_)
  have h : gS G A s (lW G ad md ou ng nw tn nl ne gn nb ns l1 l2 l3 tf l0 lf lt en ef et ep pr py ld ll lc bd bl sd sl ag z la tk tz lo wt tv D gc td tl fd st ca cs cb cd so bo rf of I F rw gd gl) H locs := gS.perm h (List.Perm.symm (pmD px_16))
  refine lv_aload_n hx hb dL_law_277 rfl (lv_at hl 2 rfl) ?_
  refine lv_aload_n hx hb dL_law_278 rfl (lv_at hl 0 rfl) ?_
  refine lv_iload hx hb dL_law_279 (lv_at hl 4 rfl) ?_
  refine lv_iconst (v := 1) hx hb dL_law_281 (by decide) ?_
  refine lv_iadd hx hb dL_law_282 ?_
  refine lv_cgi (y := nI (i + 1)) (ni_k i 1) ?_
  refine va_sld hx hb hX hbl hbA h.2.2 (i := (nI (i + 1))) (vp_in_nI (by omega) (by omega)) dL_law_283 ?_
  refine lv_cgi (y := xs (i + 1)) (nn_at xs (by omega)) ?_
  have hp := (pmD px_1 : List.Perm (lW G ad md ou ng nw tn nl ne gn nb ns l1 l2 l3 tf l0 lf lt en ef et ep pr py ld ll lc bd bl sd sl ag z la tk tz lo wt tv D gc td tl fd st ca cs cb cd so bo rf of I F rw gd gl : va_W) _)
  refine k_i C h hp (r_runV C h hp 0 rfl rfl (As := [.int (xs (i + 1))]) (rest := [.int ra]) (m_law l G md I F rw gd gl tn nl (xs (i + 1)) hT.2.1 hT.1 hL.2.1 hL.1) (cwV 1 C.1.1.2.2.2.2 gL_law_X10_law rfl rfl rfl (by decide +kernel) ⟨Nat.le_of_ble_eq_true rfl, Nat.le_of_ble_eq_true rfl⟩) rfl hl.1 (Nat.le_of_ble_eq_true rfl) dL_law_284 ⟨by show _ ≤ 601024; omega, by show _ ≤ 7293033; omega⟩) (fun rb ub H locs hwb h => ?_)
  have h : gS G A s (lW G ad md ou ng nw tn nl ne gn nb ns l1 l2 l3 tf l0 lf lt en ef et ep pr py ld ll lc bd bl sd sl ag z la tk tz lo wt tv D gc td tl fd st ca cs cb cd so bo rf of ub.1 ((mLaw I F tn nl (xs (i + 1))).2.2) ub.2.1 ub.2.2.1 ub.2.2.2) H locs := gS.perm h (List.Perm.symm (pmD px_1))
  have hq := la_lawN (xs (i + 1)) hok hm
  rw [← hwb.1, ← hwa] at hq
  refine lv_icmp_eq (tgt := 1074) hx hb dL_law_287 (by decide) (fun c_287 => ?_) (fun c_287 => ?_)
  · exact kx (lW G ad md ou ng nw tn nl ne gn nb ns l1 l2 l3 tf l0 lf lt en ef et ep pr py ld ll lc bd bl sd sl ag z la tk tz lo wt tv D gc td tl fd st ca cs cb cd so bo rf of ub.1 ((mLaw I F tn nl (xs (i + 1))).2.2) ub.2.1 ub.2.2.1 ub.2.2.2) _ _ _ _ ls ⟨ng, nw, tn, nl, ne, gn, nb, ns, l1, l2, l3, tf, l0, lf, lt, en, ef, et, ep, pr, py, ld, ll, lc, bd, bl, sd, sl, ag, z, la, tk, tz, lo, wt, tv, D, gc, td, tl, fd, st, ca, cs, cb, cd, so, bo, rf, of, ub.1, ((mLaw I F tn nl (xs (i + 1))).2.2), ub.2.1, ub.2.2.1, ub.2.2.2, L, rfl, (hm_jm (jm_jk hwb.2) hq.2), by omega, by omega⟩ h (lv_sub hl [0, 1, 2, 3, 4] rfl)
  · exact absurd (hq.1) c_287

set_option maxHeartbeats 4000000 in
set_option maxRecDepth 100000 in
theorem lc_law {p : Program} {l : Launch} {e : Env} {s : State} {m : MethodId} {args : Array Value} {below : List Frame} {meth : Method} {c : Code} {cells slots : Nat} {Q : State → Prop} {G : gG} {A : Nat → Prop} (C : gC p m c cL_law 8 s args wsL_law RL G A) (ad md : Nat → Nat) (ou b Ls : Nat) (xs : Nat → Int32) (hX : va_X b Ls xs s s.heap) (hbl : b < s.heap.size) (hbA : ¬ A b) (hLs : Ls ≤ 3072) (i j : Nat) (hij : i = 6 * j) (hi6 : i + 6 ≤ Ls) (ng : Nat) (nw : Nat) (tn : Nat) (nl : Nat) (ne : Nat) (gn : Nat) (nb : Nat) (ns : Nat) (l1 : Nat) (l2 : Nat) (l3 : Nat) (tf : Nat → Int32) (l0 : Nat → Int32) (lf : Nat → Int32) (lt : Nat → Int32) (en : Nat → Int32) (ef : Nat → Int32) (et : Nat → Int32) (ep : Nat → Int32) (pr : Nat → Int32) (py : Nat → Int32) (ld : Nat → Int32) (ll : Nat → Int32) (lc : Nat → Int32) (bd : Nat → Int32) (bl : Nat → Int32) (sd : Nat → Int32) (sl : Nat → Int32) (ag : Nat → Int32) (z : RS) (la : Nat → Nat) (tk : Nat → Nat) (tz : Nat → Nat) (lo : Nat → Nat) (wt : Nat → Nat) (tv : Nat → Nat → Int32) (D : Nat → Nat → Int32) (gc : Int32) (td : Int32) (tl : Int32) (fd : Int32) (st : Int32) (ca : Int32) (cs : Int32) (cb : Int32) (cd : Int32) (so : Nat → Option Nat) (bo : Nat → Option Nat) (rf : Nat → Option Nat) (of : Nat → Int64) (I : Nat → Int32) (F : Nat → Nat → Int32) (rw : Nat) (gd : Int64) (gl : Int64) (L : Nat → Nat) (hm : hmR tn tf nl l0 lf lt tz tv ne en ef et ep ng D pr gn gc ld ll lc nw nb ns bd bl sd sl td tl fd st so ca cs cb cd I F L) (hcb : cells ≤ 200 + 10 * j + ltC gn) (hsb : slots ≤ 100000 + 300 * j + ltS gn) (hok : hLwok nl (xs (i + 1)) tf tn = true) (kx : ∀ (W9 : va_W) (cells slots : Nat) (H : Heap) (locs : List Loc) (ls : Array Slot), lwI G ad md ou (j + 1) W9 cells slots → gS G A s W9 H locs → lv_has ls 8 [(0, .ref b), (1, .ref (ad 0)), (2, .ref (md 0)), (3, .ref ou), (4, .int (nI i))] → W p l e room_1 s m args below meth c H locs cells slots Q (F0 m 1074 ls [])) (H : Heap) (locs : List Loc) (ls : Array Slot) (h : gS G A s (lW G ad md ou ng nw tn nl ne gn nb ns l1 l2 l3 tf l0 lf lt en ef et ep pr py ld ll lc bd bl sd sl ag z la tk tz lo wt tv D gc td tl fd st ca cs cb cd so bo rf of I F rw gd gl) H locs) (hl : lv_has ls 8 [(0, .ref b), (1, .ref (ad 0)), (2, .ref (md 0)), (3, .ref ou), (4, .int (nI i))]) : W p l e room_1 s m args below meth c H locs cells slots Q (F0 m 267 ls []) := by
  have hx := C.1.1.1
  have hb := C.1.1.2.1
  have hlt := lt_b gn
  have hm9 := hm
  obtain ⟨hT, hL, hE, hG, hP, hD, hN, hB, hC⟩ := hm9
  refine lv_aload_n hx hb dL_law_267 rfl (lv_at hl 1 rfl) ?_
  refine lv_aload_n hx hb dL_law_268 rfl (lv_at hl 0 rfl) ?_
  refine lv_iload hx hb dL_law_269 (lv_at hl 4 rfl) ?_
  refine lv_iconst (v := 1) hx hb dL_law_271 (by decide) ?_
  refine lv_iadd hx hb dL_law_272 ?_
  refine lv_cgi (y := nI (i + 1)) (ni_k i 1) ?_
  refine va_sld hx hb hX hbl hbA h.2.2 (i := (nI (i + 1))) (vp_in_nI (by omega) (by omega)) dL_law_273 ?_
  refine lv_cgi (y := xs (i + 1)) (nn_at xs (by omega)) ?_
  have hp := (pmAT px_17 : List.Perm (lW G ad md ou ng nw tn nl ne gn nb ns l1 l2 l3 tf l0 lf lt en ef et ep pr py ld ll lc bd bl sd sl ag z la tk tz lo wt tv D gc td tl fd st ca cs cb cd so bo rf of I F rw gd gl : va_W) _)
  refine k_i C h hp (r_runV C h hp 0 rfl rfl (As := [.int (xs (i + 1))]) (rest := []) (h_law l G ad ng nw tn tf nl l0 lf lt la tk tz tv (xs (i + 1)) hL.1 hT.1 hok) (cwV 1 C.1.1.2.2.2.2 gL_law_X9_law rfl rfl rfl (by decide +kernel) ⟨Nat.le_of_ble_eq_true rfl, Nat.le_of_ble_eq_true rfl⟩) rfl hl.1 (Nat.le_of_ble_eq_true rfl) dL_law_274 ⟨by show _ ≤ 601024; omega, by show _ ≤ 7293033; omega⟩) (fun ra ua H locs hwa h => ?_)
  have h : gS G A s (lW G ad md ou ng nw 0 (nl + 1) ne gn nb ns l1 l2 l3 tf (upd l0 nl 0) (upd lf nl (xs (i + 1))) (upd lt nl (nI nw)) en ef et ep pr py ld ll lc bd bl sd sl ag z (va_up la nl ua.1) (va_up tk nl ua.2.1) (va_up tz nl (tkF tf tn 0 0 0 (fun _ => 0)).2) lo wt (va_up tv nl ua.2.2) D gc td tl fd st ca cs cb cd so bo rf of I F rw gd gl) H locs := gS.perm h (List.Perm.symm (pmAT px_17))
  refine lv_aload_n hx hb dL_law_277 rfl (lv_at hl 2 rfl) ?_
  refine lv_aload_n hx hb dL_law_278 rfl (lv_at hl 0 rfl) ?_
  refine lv_iload hx hb dL_law_279 (lv_at hl 4 rfl) ?_
  refine lv_iconst (v := 1) hx hb dL_law_281 (by decide) ?_
  refine lv_iadd hx hb dL_law_282 ?_
  refine lv_cgi (y := nI (i + 1)) (ni_k i 1) ?_
  refine va_sld hx hb hX hbl hbA h.2.2 (i := (nI (i + 1))) (vp_in_nI (by omega) (by omega)) dL_law_283 ?_
  refine lv_cgi (y := xs (i + 1)) (nn_at xs (by omega)) ?_
  have hp := (pmD px_1 : List.Perm (lW G ad md ou ng nw 0 (nl + 1) ne gn nb ns l1 l2 l3 tf (upd l0 nl 0) (upd lf nl (xs (i + 1))) (upd lt nl (nI nw)) en ef et ep pr py ld ll lc bd bl sd sl ag z (va_up la nl ua.1) (va_up tk nl ua.2.1) (va_up tz nl (tkF tf tn 0 0 0 (fun _ => 0)).2) lo wt (va_up tv nl ua.2.2) D gc td tl fd st ca cs cb cd so bo rf of I F rw gd gl : va_W) _)
  refine k_i C h hp (r_runV C h hp 0 rfl rfl (As := [.int (xs (i + 1))]) (rest := [.int ra]) (m_law l G md I F rw gd gl tn nl (xs (i + 1)) hT.2.1 hT.1 hL.2.1 hL.1) (cwV 1 C.1.1.2.2.2.2 gL_law_X10_law rfl rfl rfl (by decide +kernel) ⟨Nat.le_of_ble_eq_true rfl, Nat.le_of_ble_eq_true rfl⟩) rfl hl.1 (Nat.le_of_ble_eq_true rfl) dL_law_284 ⟨by show _ ≤ 601024; omega, by show _ ≤ 7293033; omega⟩) (fun rb ub H locs hwb h => ?_)
  have h : gS G A s (lW G ad md ou ng nw 0 (nl + 1) ne gn nb ns l1 l2 l3 tf (upd l0 nl 0) (upd lf nl (xs (i + 1))) (upd lt nl (nI nw)) en ef et ep pr py ld ll lc bd bl sd sl ag z (va_up la nl ua.1) (va_up tk nl ua.2.1) (va_up tz nl (tkF tf tn 0 0 0 (fun _ => 0)).2) lo wt (va_up tv nl ua.2.2) D gc td tl fd st ca cs cb cd so bo rf of ub.1 ((mLaw I F tn nl (xs (i + 1))).2.2) ub.2.1 ub.2.2.1 ub.2.2.2) H locs := gS.perm h (List.Perm.symm (pmD px_1))
  have hq := la_law (xs (i + 1)) ua.2.2 hok hwa.2 hm
  rw [← hwb.1, ← hwa.1] at hq
  refine lv_icmp_eq (tgt := 1074) hx hb dL_law_287 (by decide) (fun c_287 => ?_) (fun c_287 => ?_)
  · exact kx (lW G ad md ou ng nw 0 (nl + 1) ne gn nb ns l1 l2 l3 tf (upd l0 nl 0) (upd lf nl (xs (i + 1))) (upd lt nl (nI nw)) en ef et ep pr py ld ll lc bd bl sd sl ag z (va_up la nl ua.1) (va_up tk nl ua.2.1) (va_up tz nl (tkF tf tn 0 0 0 (fun _ => 0)).2) lo wt (va_up tv nl ua.2.2) D gc td tl fd st ca cs cb cd so bo rf of ub.1 ((mLaw I F tn nl (xs (i + 1))).2.2) ub.2.1 ub.2.2.1 ub.2.2.2) _ _ _ _ ls ⟨ng, nw, 0, (nl + 1), ne, gn, nb, ns, l1, l2, l3, tf, (upd l0 nl 0), (upd lf nl (xs (i + 1))), (upd lt nl (nI nw)), en, ef, et, ep, pr, py, ld, ll, lc, bd, bl, sd, sl, ag, z, (va_up la nl ua.1), (va_up tk nl ua.2.1), (va_up tz nl (tkF tf tn 0 0 0 (fun _ => 0)).2), lo, wt, (va_up tv nl ua.2.2), D, gc, td, tl, fd, st, ca, cs, cb, cd, so, bo, rf, of, ub.1, ((mLaw I F tn nl (xs (i + 1))).2.2), ub.2.1, ub.2.2.1, ub.2.2.2, (va_up L nl tn), rfl, (hm_jm (jm_jk hwb.2) hq.2), by omega, by omega⟩ h (lv_sub hl [0, 1, 2, 3, 4] rfl)
  · exact absurd (hq.1) c_287
