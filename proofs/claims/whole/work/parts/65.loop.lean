/-! ===== the law's loop ===== -/
theorem lw_6 {i Ls : Nat} (hi : i ≤ Ls) (hLs : Ls ≤ 3072) (h : ¬ (nI Ls) - 6 < nI i) : i + 6 ≤ Ls := by
  rw [fa_lt, show (6 : Int32) = nI 6 from rfl, pk_sub_toInt (by omega) (by decide), nI_toInt (by omega)] at h
  omega
theorem lwI_b {G : gG} {ad md : Nat → Nat} {ou j : Nat} {W9 : va_W} {cells slots : Nat} (h : lwI G ad md ou j W9 cells slots) : ∃ gn, cells ≤ 200 + 10 * j + ltC gn ∧ slots ≤ 100000 + 300 * j + ltS gn := by
  obtain ⟨ng, nw, tn, nl, ne, gn, nb, ns, l1, l2, l3, tf, l0, lf, lt, en, ef, et, ep, pr, py, ld, ll, lc, bd, bl, sd, sl, ag, z, la, tk, tz, lo, wt, tv, D, gc, td, tl, fd, st, ca, cs, cb, cd, so, bo, rf, of, I, F, rw, gd, gl, L, -, -, hc, hs⟩ := h
  exact ⟨gn, hc, hs⟩
set_option maxHeartbeats 4000000 in
set_option maxRecDepth 100000 in
theorem lc_all {p : Program} {l : Launch} {e : Env} {s : State} {m : MethodId} {args : Array Value} {below : List Frame} {meth : Method} {c : Code} {cells slots : Nat} {Q : State → Prop} {G : gG} {A : Nat → Prop} (C : gC p m c cL_law 8 s args wsL_law RL G A) (ad md : Nat → Nat) (ou b Ls : Nat) (xs : Nat → Int32) (hX : va_X b Ls xs s s.heap) (hbl : b < s.heap.size) (hbA : ¬ A b) (hLs : Ls ≤ 3072) (i j : Nat) (hij : i = 6 * j) (hi6 : i + 6 ≤ Ls) (ng : Nat) (nw : Nat) (tn : Nat) (nl : Nat) (ne : Nat) (gn : Nat) (nb : Nat) (ns : Nat) (l1 : Nat) (l2 : Nat) (l3 : Nat) (tf : Nat → Int32) (l0 : Nat → Int32) (lf : Nat → Int32) (lt : Nat → Int32) (en : Nat → Int32) (ef : Nat → Int32) (et : Nat → Int32) (ep : Nat → Int32) (pr : Nat → Int32) (py : Nat → Int32) (ld : Nat → Int32) (ll : Nat → Int32) (lc : Nat → Int32) (bd : Nat → Int32) (bl : Nat → Int32) (sd : Nat → Int32) (sl : Nat → Int32) (ag : Nat → Int32) (z : RS) (la : Nat → Nat) (tk : Nat → Nat) (tz : Nat → Nat) (lo : Nat → Nat) (wt : Nat → Nat) (tv : Nat → Nat → Int32) (D : Nat → Nat → Int32) (gc : Int32) (td : Int32) (tl : Int32) (fd : Int32) (st : Int32) (ca : Int32) (cs : Int32) (cb : Int32) (cd : Int32) (so : Nat → Option Nat) (bo : Nat → Option Nat) (rf : Nat → Option Nat) (of : Nat → Int64) (I : Nat → Int32) (F : Nat → Nat → Int32) (rw : Nat) (gd : Int64) (gl : Int64) (L : Nat → Nat) (hm : hmR tn tf nl l0 lf lt tz tv ne en ef et ep ng D pr gn gc ld ll lc nw nb ns bd bl sd sl td tl fd st so ca cs cb cd I F L) (hcb : cells ≤ 200 + 10 * j + ltC gn) (hsb : slots ≤ 100000 + 300 * j + ltS gn) (hst : l.stackTraces = false) (hxk : xK A s s.heap) (kx : ∀ (W9 : va_W) (cells slots : Nat) (H : Heap) (locs : List Loc) (ls : Array Slot), lwI G ad md ou (j + 1) W9 cells slots → gS G A s W9 H locs → lv_has ls 8 [(0, .ref b), (1, .ref (ad 0)), (2, .ref (md 0)), (3, .ref ou), (4, .int (nI i))] → W p l e room_1 s m args below meth c H locs cells slots Q (F0 m 1074 ls [])) (H : Heap) (locs : List Loc) (ls : Array Slot) (h : gS G A s (lW G ad md ou ng nw tn nl ne gn nb ns l1 l2 l3 tf l0 lf lt en ef et ep pr py ld ll lc bd bl sd sl ag z la tk tz lo wt tv D gc td tl fd st ca cs cb cd so bo rf of I F rw gd gl) H locs) (hl : lv_has ls 8 [(0, .ref b), (1, .ref (ad 0)), (2, .ref (md 0)), (3, .ref ou), (4, .int (nI i))]) : W p l e room_1 s m args below meth c H locs cells slots Q (F0 m 33 ls []) := by
  have hx := C.1.1.1
  have hb := C.1.1.2.1
  have hlt := lt_b gn
  have hm9 := hm
  obtain ⟨hT, hL, hE, hG, hP, hD, hN, hB, hC⟩ := hm9
  refine lv_aload_n hx hb dL_law_33 rfl (lv_at hl 0 rfl) ?_
  refine lv_iload hx hb dL_law_34 (lv_at hl 4 rfl) ?_
  refine va_sld hx hb hX hbl hbA h.2.2 (i := (nI i)) (vp_in_nI (by omega) (by omega)) dL_law_36 ?_
  refine lv_cgi (y := xs i) (nn_at xs (by omega)) ?_
  refine lv_bipush (v := 31) hx hb dL_law_37 (by decide) ?_
  refine lv_iand hx hb dL_law_39 ?_
  by_cases c_40_0 : ((xs i) &&& 31) = 0
  · refine lv_tableIn (off := 116) (tgt := 156) hx hb dL_law_40 (by rw [c_40_0]; decide) (by rw [c_40_0]; decide) (by rw [c_40_0]; decide) (by decide) ?_
    exact lc_feed C ad md ou b Ls xs hX hbl hbA hLs i j hij hi6 ng nw tn nl ne gn nb ns l1 l2 l3 tf l0 lf lt en ef et ep pr py ld ll lc bd bl sd sl ag z la tk tz lo wt tv D gc td tl fd st ca cs cb cd so bo rf of I F rw gd gl L hm hcb hsb  kx _ _ ls h hl
  by_cases c_40_1 : ((xs i) &&& 31) = 1
  · refine lv_tableIn (off := 189) (tgt := 229) hx hb dL_law_40 (by rw [c_40_1]; decide) (by rw [c_40_1]; decide) (by rw [c_40_1]; decide) (by decide) ?_
    exact lc_end C ad md ou b Ls xs hX hbl hbA hLs i j hij hi6 ng nw tn nl ne gn nb ns l1 l2 l3 tf l0 lf lt en ef et ep pr py ld ll lc bd bl sd sl ag z la tk tz lo wt tv D gc td tl fd st ca cs cb cd so bo rf of I F rw gd gl L hm hcb hsb  kx _ _ ls h hl
  by_cases c_40_2 : ((xs i) &&& 31) = 2
  · refine lv_tableIn (off := 214) (tgt := 254) hx hb dL_law_40 (by rw [c_40_2]; decide) (by rw [c_40_2]; decide) (by rw [c_40_2]; decide) (by decide) ?_
    exact lc_fault C ad md ou b Ls xs hX hbl hbA hLs i j hij hi6 ng nw tn nl ne gn nb ns l1 l2 l3 tf l0 lf lt en ef et ep pr py ld ll lc bd bl sd sl ag z la tk tz lo wt tv D gc td tl fd st ca cs cb cd so bo rf of I F rw gd gl L hm hcb hsb  kx _ _ ls h hl
  by_cases c_40_3 : ((xs i) &&& 31) = 3
  · refine lv_tableIn (off := 227) (tgt := 267) hx hb dL_law_40 (by rw [c_40_3]; decide) (by rw [c_40_3]; decide) (by rw [c_40_3]; decide) (by decide) ?_
    cases hok : hLwok nl (xs (i + 1)) tf tn with
    | false => exact lc_lawN C ad md ou b Ls xs hX hbl hbA hLs i j hij hi6 ng nw tn nl ne gn nb ns l1 l2 l3 tf l0 lf lt en ef et ep pr py ld ll lc bd bl sd sl ag z la tk tz lo wt tv D gc td tl fd st ca cs cb cd so bo rf of I F rw gd gl L hm hcb hsb hok kx _ _ ls h hl
    | true =>
      exact lc_law C ad md ou b Ls xs hX hbl hbA hLs i j hij hi6 ng nw tn nl ne gn nb ns l1 l2 l3 tf l0 lf lt en ef et ep pr py ld ll lc bd bl sd sl ag z la tk tz lo wt tv D gc td tl fd st ca cs cb cd so bo rf of I F rw gd gl L hm hcb hsb hok kx _ _ ls h hl
  by_cases c_40_4 : ((xs i) &&& 31) = 4
  · refine lv_tableIn (off := 252) (tgt := 292) hx hb dL_law_40 (by rw [c_40_4]; decide) (by rw [c_40_4]; decide) (by rw [c_40_4]; decide) (by decide) ?_
    by_cases hv1 : mIn (xs (i + 1)) 0 (nI nl - 1) = 0
    · exact lc_value1 C ad md ou b Ls xs hX hbl hbA hLs i j hij hi6 ng nw tn nl ne gn nb ns l1 l2 l3 tf l0 lf lt en ef et ep pr py ld ll lc bd bl sd sl ag z la tk tz lo wt tv D gc td tl fd st ca cs cb cd so bo rf of I F rw gd gl L hm hcb hsb hst hxk (Or.inl hv1) kx _ _ ls h hl
    · by_cases hv2 : mIn (xs (i + 2)) 0 1000 = 0
      · exact lc_value1 C ad md ou b Ls xs hX hbl hbA hLs i j hij hi6 ng nw tn nl ne gn nb ns l1 l2 l3 tf l0 lf lt en ef et ep pr py ld ll lc bd bl sd sl ag z la tk tz lo wt tv D gc td tl fd st ca cs cb cd so bo rf of I F rw gd gl L hm hcb hsb hst hxk (Or.inr (Or.inl hv2)) kx _ _ ls h hl
      · by_cases hv3 : mIn (xs (i + 3)) 0 1000 = 0
        · exact lc_value1 C ad md ou b Ls xs hX hbl hbA hLs i j hij hi6 ng nw tn nl ne gn nb ns l1 l2 l3 tf l0 lf lt en ef et ep pr py ld ll lc bd bl sd sl ag z la tk tz lo wt tv D gc td tl fd st ca cs cb cd so bo rf of I F rw gd gl L hm hcb hsb hst hxk (Or.inr (Or.inr hv3)) kx _ _ ls h hl
        · obtain ⟨k, hk, ek⟩ := mIn_k hv1 (by have := hL.1; omega)
          exact lc_value0 C ad md ou b Ls xs hX hbl hbA hLs i j hij hi6 ng nw tn nl ne gn nb ns l1 l2 l3 tf l0 lf lt en ef et ep pr py ld ll lc bd bl sd sl ag z la tk tz lo wt tv D gc td tl fd st ca cs cb cd so bo rf of I F rw gd gl L hm hcb hsb k ek hk hv2 hv3 kx _ _ ls h hl
  by_cases c_40_5 : ((xs i) &&& 31) = 5
  · refine lv_tableIn (off := 331) (tgt := 371) hx hb dL_law_40 (by rw [c_40_5]; decide) (by rw [c_40_5]; decide) (by rw [c_40_5]; decide) (by decide) ?_
    exact lc_force C ad md ou b Ls xs hX hbl hbA hLs i j hij hi6 ng nw tn nl ne gn nb ns l1 l2 l3 tf l0 lf lt en ef et ep pr py ld ll lc bd bl sd sl ag z la tk tz lo wt tv D gc td tl fd st ca cs cb cd so bo rf of I F rw gd gl L hm hcb hsb  kx _ _ ls h hl
  by_cases c_40_6 : ((xs i) &&& 31) = 6
  · refine lv_tableIn (off := 368) (tgt := 408) hx hb dL_law_40 (by rw [c_40_6]; decide) (by rw [c_40_6]; decide) (by rw [c_40_6]; decide) (by decide) ?_
    exact lc_most C ad md ou b Ls xs hX hbl hbA hLs i j hij hi6 ng nw tn nl ne gn nb ns l1 l2 l3 tf l0 lf lt en ef et ep pr py ld ll lc bd bl sd sl ag z la tk tz lo wt tv D gc td tl fd st ca cs cb cd so bo rf of I F rw gd gl L hm hcb hsb  kx _ _ ls h hl
  by_cases c_40_7 : ((xs i) &&& 31) = 7
  · refine lv_tableIn (off := 405) (tgt := 445) hx hb dL_law_40 (by rw [c_40_7]; decide) (by rw [c_40_7]; decide) (by rw [c_40_7]; decide) (by decide) ?_
    exact lc_error C ad md ou b Ls xs hX hbl hbA hLs i j hij hi6 ng nw tn nl ne gn nb ns l1 l2 l3 tf l0 lf lt en ef et ep pr py ld ll lc bd bl sd sl ag z la tk tz lo wt tv D gc td tl fd st ca cs cb cd so bo rf of I F rw gd gl L hm hcb hsb  kx _ _ ls h hl
  by_cases c_40_8 : ((xs i) &&& 31) = 8
  · refine lv_tableIn (off := 454) (tgt := 494) hx hb dL_law_40 (by rw [c_40_8]; decide) (by rw [c_40_8]; decide) (by rw [c_40_8]; decide) (by decide) ?_
    cases hok : hLok ng (xs (i + 1)) (xs (i + 2)) (xs (i + 3)) (xs (i + 4)) with
    | false => exact lc_logN C ad md ou b Ls xs hX hbl hbA hLs i j hij hi6 ng nw tn nl ne gn nb ns l1 l2 l3 tf l0 lf lt en ef et ep pr py ld ll lc bd bl sd sl ag z la tk tz lo wt tv D gc td tl fd st ca cs cb cd so bo rf of I F rw gd gl L hm hcb hsb hok kx _ _ ls h hl
    | true =>
      exact lc_log C ad md ou b Ls xs hX hbl hbA hLs i j hij hi6 ng nw tn nl ne gn nb ns l1 l2 l3 tf l0 lf lt en ef et ep pr py ld ll lc bd bl sd sl ag z la tk tz lo wt tv D gc td tl fd st ca cs cb cd so bo rf of I F rw gd gl L hm hcb hsb hok kx _ _ ls h hl
  by_cases c_40_9 : ((xs i) &&& 31) = 9
  · refine lv_tableIn (off := 515) (tgt := 555) hx hb dL_law_40 (by rw [c_40_9]; decide) (by rw [c_40_9]; decide) (by rw [c_40_9]; decide) (by decide) ?_
    cases hok : hDok ng (xs (i + 1)) (xs (i + 2)) (xs (i + 3)) with
    | false => exact lc_defN C ad md ou b Ls xs hX hbl hbA hLs i j hij hi6 ng nw tn nl ne gn nb ns l1 l2 l3 tf l0 lf lt en ef et ep pr py ld ll lc bd bl sd sl ag z la tk tz lo wt tv D gc td tl fd st ca cs cb cd so bo rf of I F rw gd gl L hm hcb hsb hok kx _ _ ls h hl
    | true =>
      have ho := hok
      unfold hDok at ho
      rw [Bool.and_eq_true, Bool.and_eq_true, decide_eq_true_eq, decide_eq_true_eq, decide_eq_true_eq] at ho
      obtain ⟨k, hk, ek⟩ := mIn_k ho.1.1 (by have := hG.1; omega)
      exact lc_def C ad md ou b Ls xs hX hbl hbA hLs i j hij hi6 ng nw tn nl ne gn nb ns l1 l2 l3 tf l0 lf lt en ef et ep pr py ld ll lc bd bl sd sl ag z la tk tz lo wt tv D gc td tl fd st ca cs cb cd so bo rf of I F rw gd gl L hm hcb hsb k ek hk ho.1.2 ho.2 kx _ _ ls h hl
  by_cases c_40_10 : ((xs i) &&& 31) = 10
  · refine lv_tableIn (off := 564) (tgt := 604) hx hb dL_law_40 (by rw [c_40_10]; decide) (by rw [c_40_10]; decide) (by rw [c_40_10]; decide) (by decide) ?_
    by_cases hv1 : mIn (xs (i + 1)) 0 (nI ng - 1) = 0
    · exact lc_scaleN C ad md ou b Ls xs hX hbl hbA hLs i j hij hi6 ng nw tn nl ne gn nb ns l1 l2 l3 tf l0 lf lt en ef et ep pr py ld ll lc bd bl sd sl ag z la tk tz lo wt tv D gc td tl fd st ca cs cb cd so bo rf of I F rw gd gl L hm hcb hsb (Or.inl hv1) kx _ _ ls h hl
    · by_cases hv2 : mIn (xs (i + 2)) 0 (nI nw) = 0
      · exact lc_scaleN C ad md ou b Ls xs hX hbl hbA hLs i j hij hi6 ng nw tn nl ne gn nb ns l1 l2 l3 tf l0 lf lt en ef et ep pr py ld ll lc bd bl sd sl ag z la tk tz lo wt tv D gc td tl fd st ca cs cb cd so bo rf of I F rw gd gl L hm hcb hsb (Or.inr hv2) kx _ _ ls h hl
      · obtain ⟨k, hk, ek⟩ := mIn_k hv1 (by have := hG.1; omega)
        exact lc_scale C ad md ou b Ls xs hX hbl hbA hLs i j hij hi6 ng nw tn nl ne gn nb ns l1 l2 l3 tf l0 lf lt en ef et ep pr py ld ll lc bd bl sd sl ag z la tk tz lo wt tv D gc td tl fd st ca cs cb cd so bo rf of I F rw gd gl L hm hcb hsb k ek hk hv2 kx _ _ ls h hl
  by_cases c_40_11 : ((xs i) &&& 31) = 11
  · refine lv_tableIn (off := 601) (tgt := 641) hx hb dL_law_40 (by rw [c_40_11]; decide) (by rw [c_40_11]; decide) (by rw [c_40_11]; decide) (by decide) ?_
    exact lc_sum C ad md ou b Ls xs hX hbl hbA hLs i j hij hi6 ng nw tn nl ne gn nb ns l1 l2 l3 tf l0 lf lt en ef et ep pr py ld ll lc bd bl sd sl ag z la tk tz lo wt tv D gc td tl fd st ca cs cb cd so bo rf of I F rw gd gl L hm hcb hsb  kx _ _ ls h hl
  by_cases c_40_12 : ((xs i) &&& 31) = 12
  · refine lv_tableIn (off := 638) (tgt := 678) hx hb dL_law_40 (by rw [c_40_12]; decide) (by rw [c_40_12]; decide) (by rw [c_40_12]; decide) (by decide) ?_
    exact lc_price C ad md ou b Ls xs hX hbl hbA hLs i j hij hi6 ng nw tn nl ne gn nb ns l1 l2 l3 tf l0 lf lt en ef et ep pr py ld ll lc bd bl sd sl ag z la tk tz lo wt tv D gc td tl fd st ca cs cb cd so bo rf of I F rw gd gl L hm hcb hsb  kx _ _ ls h hl
  by_cases c_40_13 : ((xs i) &&& 31) = 13
  · refine lv_tableIn (off := 675) (tgt := 715) hx hb dL_law_40 (by rw [c_40_13]; decide) (by rw [c_40_13]; decide) (by rw [c_40_13]; decide) (by decide) ?_
    by_cases hnw : nw < 500
    · by_cases e29 : gn + (mCn (hPay l0 lf lt nl en ef et ep ne (mLv F L) pr D nw) (D 8) ng 0) ≤ 20000
      · exact lc_day C ad md ou b Ls xs hX hbl hbA hLs i j hij hi6 ng nw tn nl ne gn nb ns l1 l2 l3 tf l0 lf lt en ef et ep pr py ld ll lc bd bl sd sl ag z la tk tz lo wt tv D gc td tl fd st ca cs cb cd so bo rf of I F rw gd gl L hm hcb hsb hnw e29 kx _ _ ls h hl
      · exact lc_dayF C ad md ou b Ls xs hX hbl hbA hLs i j hij hi6 ng nw tn nl ne gn nb ns l1 l2 l3 tf l0 lf lt en ef et ep pr py ld ll lc bd bl sd sl ag z la tk tz lo wt tv D gc td tl fd st ca cs cb cd so bo rf of I F rw gd gl L hm hcb hsb hnw e29 kx _ _ ls h hl
    · exact lc_dayN C ad md ou b Ls xs hX hbl hbA hLs i j hij hi6 ng nw tn nl ne gn nb ns l1 l2 l3 tf l0 lf lt en ef et ep pr py ld ll lc bd bl sd sl ag z la tk tz lo wt tv D gc td tl fd st ca cs cb cd so bo rf of I F rw gd gl L hm hcb hsb (Nat.le_of_not_lt hnw) kx _ _ ls h hl
  by_cases c_40_14 : ((xs i) &&& 31) = 14
  · refine lv_tableIn (off := 688) (tgt := 728) hx hb dL_law_40 (by rw [c_40_14]; decide) (by rw [c_40_14]; decide) (by rw [c_40_14]; decide) (by decide) ?_
    exact lc_line C ad md ou b Ls xs hX hbl hbA hLs i j hij hi6 ng nw tn nl ne gn nb ns l1 l2 l3 tf l0 lf lt en ef et ep pr py ld ll lc bd bl sd sl ag z la tk tz lo wt tv D gc td tl fd st ca cs cb cd so bo rf of I F rw gd gl L hm hcb hsb  kx _ _ ls h hl
  by_cases c_40_15 : ((xs i) &&& 31) = 15
  · refine lv_tableIn (off := 725) (tgt := 765) hx hb dL_law_40 (by rw [c_40_15]; decide) (by rw [c_40_15]; decide) (by rw [c_40_15]; decide) (by decide) ?_
    cases hok : hCok ng (xs (i + 1)) (xs (i + 2)) with
    | false => exact lc_chkN C ad md ou b Ls xs hX hbl hbA hLs i j hij hi6 ng nw tn nl ne gn nb ns l1 l2 l3 tf l0 lf lt en ef et ep pr py ld ll lc bd bl sd sl ag z la tk tz lo wt tv D gc td tl fd st ca cs cb cd so bo rf of I F rw gd gl L hm hcb hsb hok kx _ _ ls h hl
    | true =>
      have ho := hok
      unfold hCok at ho
      rw [Bool.and_eq_true, decide_eq_true_eq, decide_eq_true_eq] at ho
      obtain ⟨k, hk, ek⟩ := mIn_k ho.1 (by have := hG.1; omega)
      exact lc_chk C ad md ou b Ls xs hX hbl hbA hLs i j hij hi6 ng nw tn nl ne gn nb ns l1 l2 l3 tf l0 lf lt en ef et ep pr py ld ll lc bd bl sd sl ag z la tk tz lo wt tv D gc td tl fd st ca cs cb cd so bo rf of I F rw gd gl L hm hcb hsb k ek hk ho.2 kx _ _ ls h hl
  by_cases c_40_16 : ((xs i) &&& 31) = 16
  · refine lv_tableIn (off := 762) (tgt := 802) hx hb dL_law_40 (by rw [c_40_16]; decide) (by rw [c_40_16]; decide) (by rw [c_40_16]; decide) (by decide) ?_
    exact lc_habit C ad md ou b Ls xs hX hbl hbA hLs i j hij hi6 ng nw tn nl ne gn nb ns l1 l2 l3 tf l0 lf lt en ef et ep pr py ld ll lc bd bl sd sl ag z la tk tz lo wt tv D gc td tl fd st ca cs cb cd so bo rf of I F rw gd gl L hm hcb hsb  kx _ _ ls h hl
  by_cases c_40_17 : ((xs i) &&& 31) = 17
  · refine lv_tableIn (off := 800) (tgt := 840) hx hb dL_law_40 (by rw [c_40_17]; decide) (by rw [c_40_17]; decide) (by rw [c_40_17]; decide) (by decide) ?_
    by_cases hv1 : mIn (xs (i + 1)) 0 1 = 0
    · exact lc_rowN C ad md ou b Ls xs hX hbl hbA hLs i j hij hi6 ng nw tn nl ne gn nb ns l1 l2 l3 tf l0 lf lt en ef et ep pr py ld ll lc bd bl sd sl ag z la tk tz lo wt tv D gc td tl fd st ca cs cb cd so bo rf of I F rw gd gl L hm hcb hsb hv1 kx _ _ ls h hl
    · obtain ⟨k, hk, ek⟩ := mIn_n (n := 1) hv1 (Int.le_refl _) rfl
      rcases (by omega : k = 0 ∨ k = 1) with rfl | rfl
      · exact lc_row0 C ad md ou b Ls xs hX hbl hbA hLs i j hij hi6 ng nw tn nl ne gn nb ns l1 l2 l3 tf l0 lf lt en ef et ep pr py ld ll lc bd bl sd sl ag z la tk tz lo wt tv D gc td tl fd st ca cs cb cd so bo rf of I F rw gd gl L hm hcb hsb ek kx _ _ ls h hl
      · exact lc_row1 C ad md ou b Ls xs hX hbl hbA hLs i j hij hi6 ng nw tn nl ne gn nb ns l1 l2 l3 tf l0 lf lt en ef et ep pr py ld ll lc bd bl sd sl ag z la tk tz lo wt tv D gc td tl fd st ca cs cb cd so bo rf of I F rw gd gl L hm hcb hsb ek kx _ _ ls h hl
  by_cases c_40_18 : ((xs i) &&& 31) = 18
  · refine lv_tableIn (off := 849) (tgt := 889) hx hb dL_law_40 (by rw [c_40_18]; decide) (by rw [c_40_18]; decide) (by rw [c_40_18]; decide) (by decide) ?_
    exact lc_clear C ad md ou b Ls xs hX hbl hbA hLs i j hij hi6 ng nw tn nl ne gn nb ns l1 l2 l3 tf l0 lf lt en ef et ep pr py ld ll lc bd bl sd sl ag z la tk tz lo wt tv D gc td tl fd st ca cs cb cd so bo rf of I F rw gd gl L hm hcb hsb  kx _ _ ls h hl
  by_cases c_40_19 : ((xs i) &&& 31) = 19
  · refine lv_tableIn (off := 860) (tgt := 900) hx hb dL_law_40 (by rw [c_40_19]; decide) (by rw [c_40_19]; decide) (by rw [c_40_19]; decide) (by decide) ?_
    exact lc_allow C ad md ou b Ls xs hX hbl hbA hLs i j hij hi6 ng nw tn nl ne gn nb ns l1 l2 l3 tf l0 lf lt en ef et ep pr py ld ll lc bd bl sd sl ag z la tk tz lo wt tv D gc td tl fd st ca cs cb cd so bo rf of I F rw gd gl L hm hcb hsb  kx _ _ ls h hl
  by_cases c_40_20 : ((xs i) &&& 31) = 20
  · refine lv_tableIn (off := 897) (tgt := 937) hx hb dL_law_40 (by rw [c_40_20]; decide) (by rw [c_40_20]; decide) (by rw [c_40_20]; decide) (by decide) ?_
    rcases hB.2.2.2.2.2 with est | ⟨est, -⟩
    · subst est
      exact lc_pairs0 C ad md ou b Ls xs hX hbl hbA hLs i j hij hi6 ng nw tn nl ne gn nb ns l1 l2 l3 tf l0 lf lt en ef et ep pr py ld ll lc bd bl sd sl ag z la tk tz lo wt tv D gc td tl fd _ ca cs cb cd so bo rf of I F rw gd gl L hm hcb hsb rfl kx _ _ ls h hl
    · subst est
      exact lc_pairs1 C ad md ou b Ls xs hX hbl hbA hLs i j hij hi6 ng nw tn nl ne gn nb ns l1 l2 l3 tf l0 lf lt en ef et ep pr py ld ll lc bd bl sd sl ag z la tk tz lo wt tv D gc td tl fd _ ca cs cb cd so bo rf of I F rw gd gl L hm hcb hsb rfl kx _ _ ls h hl
  by_cases c_40_21 : ((xs i) &&& 31) = 21
  · refine lv_tableIn (off := 910) (tgt := 950) hx hb dL_law_40 (by rw [c_40_21]; decide) (by rw [c_40_21]; decide) (by rw [c_40_21]; decide) (by decide) ?_
    by_cases hv1 : mIn (xs (i + 1)) 0 (nI nb - 1) = 0
    · exact lc_pairN C ad md ou b Ls xs hX hbl hbA hLs i j hij hi6 ng nw tn nl ne gn nb ns l1 l2 l3 tf l0 lf lt en ef et ep pr py ld ll lc bd bl sd sl ag z la tk tz lo wt tv D gc td tl fd st ca cs cb cd so bo rf of I F rw gd gl L hm hcb hsb hv1 kx _ _ ls h hl
    · obtain ⟨k, hk, ek⟩ := mIn_k hv1 (by have := hB.1.1; omega)
      rcases hB.2.2.2.2.2 with est | ⟨est, -⟩
      · subst est
        exact lc_pair0 C ad md ou b Ls xs hX hbl hbA hLs i j hij hi6 ng nw tn nl ne gn nb ns l1 l2 l3 tf l0 lf lt en ef et ep pr py ld ll lc bd bl sd sl ag z la tk tz lo wt tv D gc td tl fd _ ca cs cb cd so bo rf of I F rw gd gl L hm hcb hsb k ek hk rfl kx _ _ ls h hl
      · subst est
        exact lc_pair1 C ad md ou b Ls xs hX hbl hbA hLs i j hij hi6 ng nw tn nl ne gn nb ns l1 l2 l3 tf l0 lf lt en ef et ep pr py ld ll lc bd bl sd sl ag z la tk tz lo wt tv D gc td tl fd _ ca cs cb cd so bo rf of I F rw gd gl L hm hcb hsb k ek hk rfl kx _ _ ls h hl
  by_cases c_40_22 : ((xs i) &&& 31) = 22
  · refine lv_tableIn (off := 935) (tgt := 975) hx hb dL_law_40 (by rw [c_40_22]; decide) (by rw [c_40_22]; decide) (by rw [c_40_22]; decide) (by decide) ?_
    exact lc_near C ad md ou b Ls xs hX hbl hbA hLs i j hij hi6 ng nw tn nl ne gn nb ns l1 l2 l3 tf l0 lf lt en ef et ep pr py ld ll lc bd bl sd sl ag z la tk tz lo wt tv D gc td tl fd st ca cs cb cd so bo rf of I F rw gd gl L hm hcb hsb  kx _ _ ls h hl
  by_cases c_40_23 : ((xs i) &&& 31) = 23
  · refine lv_tableIn (off := 960) (tgt := 1000) hx hb dL_law_40 (by rw [c_40_23]; decide) (by rw [c_40_23]; decide) (by rw [c_40_23]; decide) (by decide) ?_
    exact lc_judge C ad md ou b Ls xs hX hbl hbA hLs i j hij hi6 ng nw tn nl ne gn nb ns l1 l2 l3 tf l0 lf lt en ef et ep pr py ld ll lc bd bl sd sl ag z la tk tz lo wt tv D gc td tl fd st ca cs cb cd so bo rf of I F rw gd gl L hm hcb hsb  kx _ _ ls h hl
  by_cases c_40_24 : ((xs i) &&& 31) = 24
  · refine lv_tableIn (off := 1009) (tgt := 1049) hx hb dL_law_40 (by rw [c_40_24]; decide) (by rw [c_40_24]; decide) (by rw [c_40_24]; decide) (by decide) ?_
    exact lc_count C ad md ou b Ls xs hX hbl hbA hLs i j hij hi6 ng nw tn nl ne gn nb ns l1 l2 l3 tf l0 lf lt en ef et ep pr py ld ll lc bd bl sd sl ag z la tk tz lo wt tv D gc td tl fd st ca cs cb cd so bo rf of I F rw gd gl L hm hcb hsb  kx _ _ ls h hl
  refine lv_tableOut (tgt := 1074) hx hb dL_law_40 (by have z0 := lv_neT c_40_0 (a := 0) rfl; have z1 := lv_neT c_40_1 (a := 1) rfl; have z2 := lv_neT c_40_2 (a := 2) rfl; have z3 := lv_neT c_40_3 (a := 3) rfl; have z4 := lv_neT c_40_4 (a := 4) rfl; have z5 := lv_neT c_40_5 (a := 5) rfl; have z6 := lv_neT c_40_6 (a := 6) rfl; have z7 := lv_neT c_40_7 (a := 7) rfl; have z8 := lv_neT c_40_8 (a := 8) rfl; have z9 := lv_neT c_40_9 (a := 9) rfl; have z10 := lv_neT c_40_10 (a := 10) rfl; have z11 := lv_neT c_40_11 (a := 11) rfl; have z12 := lv_neT c_40_12 (a := 12) rfl; have z13 := lv_neT c_40_13 (a := 13) rfl; have z14 := lv_neT c_40_14 (a := 14) rfl; have z15 := lv_neT c_40_15 (a := 15) rfl; have z16 := lv_neT c_40_16 (a := 16) rfl; have z17 := lv_neT c_40_17 (a := 17) rfl; have z18 := lv_neT c_40_18 (a := 18) rfl; have z19 := lv_neT c_40_19 (a := 19) rfl; have z20 := lv_neT c_40_20 (a := 20) rfl; have z21 := lv_neT c_40_21 (a := 21) rfl; have z22 := lv_neT c_40_22 (a := 22) rfl; have z23 := lv_neT c_40_23 (a := 23) rfl; have z24 := lv_neT c_40_24 (a := 24) rfl; omega) (by decide) ?_
  exact kx (lW G ad md ou ng nw tn nl ne gn nb ns l1 l2 l3 tf l0 lf lt en ef et ep pr py ld ll lc bd bl sd sl ag z la tk tz lo wt tv D gc td tl fd st ca cs cb cd so bo rf of I F rw gd gl) _ _ _ _ ls ⟨ng, nw, tn, nl, ne, gn, nb, ns, l1, l2, l3, tf, l0, lf, lt, en, ef, et, ep, pr, py, ld, ll, lc, bd, bl, sd, sl, ag, z, la, tk, tz, lo, wt, tv, D, gc, td, tl, fd, st, ca, cs, cb, cd, so, bo, rf, of, I, F, rw, gd, gl, L, rfl, hm, by omega, by omega⟩ h hl

set_option maxHeartbeats 4000000 in
set_option maxRecDepth 100000 in
theorem lp_23 {p : Program} {l : Launch} {e : Env} {s : State} {m : MethodId} {args : Array Value} {below : List Frame} {meth : Method} {c : Code} {cells slots : Nat} {Q : State → Prop} {G : gG} {A : Nat → Prop} (C : gC p m c cL_law 8 s args wsL_law RL G A) (ad md : Nat → Nat) (ou b Ls : Nat) (xs : Nat → Int32) (hX : va_X b Ls xs s s.heap) (hbl : b < s.heap.size) (hbA : ¬ A b) (hLs : Ls ≤ 3072) (i : Nat) (hi : i ≤ Ls) (W9 : va_W) (ky : ∀ (H : Heap) (locs : List Loc) (ls : Array Slot), gS G A s W9 H locs → lv_has ls 8 [(0, .ref b), (1, .ref (ad 0)), (2, .ref (md 0)), (3, .ref ou), (4, .int (nI i))] → W p l e room_1 s m args below meth c H locs cells slots Q (F0 m 1080 ls [])) (kn : i + 6 ≤ Ls → ∀ (H : Heap) (locs : List Loc) (ls : Array Slot), gS G A s W9 H locs → lv_has ls 8 [(0, .ref b), (1, .ref (ad 0)), (2, .ref (md 0)), (3, .ref ou), (4, .int (nI i))] → W p l e room_1 s m args below meth c H locs cells slots Q (F0 m 33 ls [])) (H : Heap) (locs : List Loc) (ls : Array Slot) (h : gS G A s (W9) H locs) (hl : lv_has ls 8 [(0, .ref b), (1, .ref (ad 0)), (2, .ref (md 0)), (3, .ref ou), (4, .int (nI i))]) : W p l e room_1 s m args below meth c H locs cells slots Q (F0 m 23 ls []) := by
  have hx := C.1.1.1
  have hb := C.1.1.2.1
  refine lv_iload hx hb dL_law_23 (lv_at hl 4 rfl) ?_
  refine lv_aload_n hx hb dL_law_25 rfl (lv_at hl 0 rfl) ?_
  refine va_slen hx hb hX hbl hbA h.2.2 dL_law_26 ?_
  refine lv_bipush (v := 6) hx hb dL_law_27 (by decide) ?_
  refine lv_isub hx hb dL_law_29 ?_
  refine lv_icmp_gt (tgt := 1080) hx hb dL_law_30 (by decide) (fun c_30 => ?_) (fun c_30 => ?_)
  · exact ky _ _ ls h hl
  · exact kn (lw_6 hi hLs c_30) _ _ ls h hl

set_option maxHeartbeats 4000000 in
set_option maxRecDepth 100000 in
theorem lp_1074 {p : Program} {l : Launch} {e : Env} {s : State} {m : MethodId} {args : Array Value} {below : List Frame} {meth : Method} {c : Code} {cells slots : Nat} {Q : State → Prop} {G : gG} {A : Nat → Prop} (C : gC p m c cL_law 8 s args wsL_law RL G A) (ad md : Nat → Nat) (ou b : Nat) (i : Nat) (W9 : va_W) (kx : ∀ (H : Heap) (locs : List Loc) (ls : Array Slot), gS G A s W9 H locs → lv_has ls 8 [(0, .ref b), (1, .ref (ad 0)), (2, .ref (md 0)), (3, .ref ou), (4, .int (nI (i + 6)))] → W p l e room_1 s m args below meth c H locs cells slots Q (F0 m 23 ls [])) (H : Heap) (locs : List Loc) (ls : Array Slot) (h : gS G A s (W9) H locs) (hl : lv_has ls 8 [(0, .ref b), (1, .ref (ad 0)), (2, .ref (md 0)), (3, .ref ou), (4, .int (nI i))]) : W p l e room_1 s m args below meth c H locs cells slots Q (F0 m 1074 ls []) := by
  have hx := C.1.1.1
  have hb := C.1.1.2.1
  obtain ⟨x_1, ex_1⟩ : ∃ y : Int32, y = (nI i) + 6 := ⟨_, rfl⟩
  refine lv_iinc (v := x_1) (lv' := [(4, .int x_1), (0, .ref b), (1, .ref (ad 0)), (2, .ref (md 0)), (3, .ref ou)]) hx hb dL_law_1074 hl (k := 4) rfl (by rw [ex_1]; rfl) (by decide) rfl (fun ls hl => ?_)
  refine lv_goto (tgt := 23) hx hb dL_law_1077 (by decide) ?_
  have ex2 : x_1 = nI (i + 6) := by rw [ex_1]; exact ni_k i 6
  subst ex2
  exact kx _ _ ls h (lv_sub hl [1, 2, 3, 4, 0] rfl)

theorem law_loop {p : Program} {l : Launch} {e : Env} {s : State} {m : MethodId} {args : Array Value} {below : List Frame} {meth : Method} {c : Code} {Q : State → Prop} {G : gG} {A : Nat → Prop} (C : gC p m c cL_law 8 s args wsL_law RL G A) (ad md : Nat → Nat) (ou b Ls : Nat) (xs : Nat → Int32) (hX : va_X b Ls xs s s.heap) (hbl : b < s.heap.size) (hbA : ¬ A b) (hLs : Ls ≤ 3072) (hst : l.stackTraces = false) (hxk : xK A s s.heap)
    (kz : ∀ (W9 : va_W) (cells slots : Nat) (H : Heap) (locs : List Loc) (ls : Array Slot), cells ≤ 601024 → slots ≤ 7293033 → gS G A s W9 H locs → W p l e room_1 s m args below meth c H locs cells slots Q (F0 m 1080 ls [])) :
    ∀ (r j : Nat) (W9 : va_W) (cells slots : Nat) (H : Heap) (locs : List Loc) (ls : Array Slot), 6 * j ≤ Ls → Ls < 6 * j + 6 * r + 6 → lwI G ad md ou j W9 cells slots → gS G A s W9 H locs → lv_has ls 8 [(0, .ref b), (1, .ref (ad 0)), (2, .ref (md 0)), (3, .ref ou), (4, .int (nI (6 * j)))] → W p l e room_1 s m args below meth c H locs cells slots Q (F0 m 23 ls []) := by
  intro r
  induction r with
  | zero =>
    intro j W9 cells slots H locs ls hj hr hI h hl
    obtain ⟨gn, hc, hs⟩ := lwI_b hI
    have hlt := lt_b gn
    exact lp_23 C ad md ou b Ls xs hX hbl hbA hLs (6 * j) hj W9 (fun H locs ls h hl => kz W9 _ _ H locs ls (by omega) (by omega) h) (fun h6 => absurd h6 (by omega)) H locs ls h hl
  | succ r ih =>
    intro j W9 cells slots H locs ls hj hr hI h hl
    obtain ⟨gn, hc, hs⟩ := lwI_b hI
    have hlt := lt_b gn
    refine lp_23 C ad md ou b Ls xs hX hbl hbA hLs (6 * j) hj W9 (fun H locs ls h hl => kz W9 _ _ H locs ls (by omega) (by omega) h) (fun h6 H locs ls h hl => ?_) H locs ls h hl
    clear hc hs hlt gn
    obtain ⟨ng, nw, tn, nl, ne, gn, nb, ns, l1, l2, l3, tf, l0, lf, lt, en, ef, et, ep, pr, py, ld, ll, lc, bd, bl, sd, sl, ag, z, la, tk, tz, lo, wt, tv, D, gc, td, tl, fd, st, ca, cs, cb, cd, so, bo, rf, of, I, F, rw, gd, gl, L, rfl, hm, hc, hs⟩ := hI
    refine lc_all C ad md ou b Ls xs hX hbl hbA hLs (6 * j) j rfl h6 ng nw tn nl ne gn nb ns l1 l2 l3 tf l0 lf lt en ef et ep pr py ld ll lc bd bl sd sl ag z la tk tz lo wt tv D gc td tl fd st ca cs cb cd so bo rf of I F rw gd gl L hm hc hs hst hxk (fun W9 cells slots H locs ls hI h hl => ?_) H locs ls h hl
    exact lp_1074 C ad md ou b (6 * j) W9 (fun H locs ls h hl => ih (j + 1) W9 cells slots H locs ls (by omega) (by omega) hI h hl) H locs ls h hl
