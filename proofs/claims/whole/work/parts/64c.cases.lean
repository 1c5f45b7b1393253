set_option maxHeartbeats 4000000 in
set_option maxRecDepth 100000 in
theorem lc_rowN {p : Program} {l : Launch} {e : Env} {s : State} {m : MethodId} {args : Array Value} {below : List Frame} {meth : Method} {c : Code} {cells slots : Nat} {Q : State → Prop} {G : gG} {A : Nat → Prop} (C : gC p m c cL_law 8 s args wsL_law RL G A) (ad md : Nat → Nat) (ou b Ls : Nat) (xs : Nat → Int32) (hX : va_X b Ls xs s s.heap) (hbl : b < s.heap.size) (hbA : ¬ A b) (hLs : Ls ≤ 3072) (i j : Nat) (hij : i = 6 * j) (hi6 : i + 6 ≤ Ls) (ng : Nat) (nw : Nat) (tn : Nat) (nl : Nat) (ne : Nat) (gn : Nat) (nb : Nat) (ns : Nat) (l1 : Nat) (l2 : Nat) (l3 : Nat) (tf : Nat → Int32) (l0 : Nat → Int32) (lf : Nat → Int32) (lt : Nat → Int32) (en : Nat → Int32) (ef : Nat → Int32) (et : Nat → Int32) (ep : Nat → Int32) (pr : Nat → Int32) (py : Nat → Int32) (ld : Nat → Int32) (ll : Nat → Int32) (lc : Nat → Int32) (bd : Nat → Int32) (bl : Nat → Int32) (sd : Nat → Int32) (sl : Nat → Int32) (ag : Nat → Int32) (z : RS) (la : Nat → Nat) (tk : Nat → Nat) (tz : Nat → Nat) (lo : Nat → Nat) (wt : Nat → Nat) (tv : Nat → Nat → Int32) (D : Nat → Nat → Int32) (gc : Int32) (td : Int32) (tl : Int32) (fd : Int32) (st : Int32) (ca : Int32) (cs : Int32) (cb : Int32) (cd : Int32) (so : Nat → Option Nat) (bo : Nat → Option Nat) (rf : Nat → Option Nat) (of : Nat → Int64) (I : Nat → Int32) (F : Nat → Nat → Int32) (rw : Nat) (gd : Int64) (gl : Int64) (L : Nat → Nat) (hm : hmR tn tf nl l0 lf lt tz tv ne en ef et ep ng D pr gn gc ld ll lc nw nb ns bd bl sd sl td tl fd st so ca cs cb cd I F L) (hcb : cells ≤ 200 + 10 * j + ltC gn) (hsb : slots ≤ 100000 + 300 * j + ltS gn) (hok : mIn (xs (i + 1)) 0 1 = 0) (kx : ∀ (W9 : va_W) (cells slots : Nat) (H : Heap) (locs : List Loc) (ls : Array Slot), lwI G ad md ou (j + 1) W9 cells slots → gS G A s W9 H locs → lv_has ls 8 [(0, .ref b), (1, .ref (ad 0)), (2, .ref (md 0)), (3, .ref ou), (4, .int (nI i))] → W p l e room_1 s m args below meth c H locs cells slots Q (F0 m 1074 ls [])) (H : Heap) (locs : List Loc) (ls : Array Slot) (h : gS G A s (lW G ad md ou ng nw tn nl ne gn nb ns l1 l2 l3 tf l0 lf lt en ef et ep pr py ld ll lc bd bl sd sl ag z la tk tz lo wt tv D gc td tl fd st ca cs cb cd so bo rf of I F rw gd gl) H locs) (hl : lv_has ls 8 [(0, .ref b), (1, .ref (ad 0)), (2, .ref (md 0)), (3, .ref ou), (4, .int (nI i))]) : W p l e room_1 s m args below meth c H locs cells slots Q (F0 m 840 ls []) := by
  have hx := C.1.1.1
  have hb := C.1.1.2.1
  have hlt := lt_b gn
  have hm9 := hm
  obtain ⟨hT, hL, hE, hG, hP, hD, hN, hB, hC⟩ := hm9
  refine lv_aload_n hx hb dL_law_840 rfl (lv_at hl 1 rfl) ?_
  refine lv_aload_n hx hb dL_law_841 rfl (lv_at hl 0 rfl) ?_
  refine lv_iload hx hb dL_law_842 (lv_at hl 4 rfl) ?_
  refine lv_iconst (v := 1) hx hb dL_law_844 (by decide) ?_
  refine lv_iadd hx hb dL_law_845 ?_
  refine lv_cgi (y := nI (i + 1)) (ni_k i 1) ?_
  refine va_sld hx hb hX hbl hbA h.2.2 (i := (nI (i + 1))) (vp_in_nI (by omega) (by omega)) dL_law_846 ?_
  refine lv_cgi (y := xs (i + 1)) (nn_at xs (by omega)) ?_
  refine lv_aload_n hx hb dL_law_847 rfl (lv_at hl 0 rfl) ?_
  refine lv_iload hx hb dL_law_848 (lv_at hl 4 rfl) ?_
  refine lv_iconst (v := 2) hx hb dL_law_850 (by decide) ?_
  refine lv_iadd hx hb dL_law_851 ?_
  refine lv_cgi (y := nI (i + 2)) (ni_k i 2) ?_
  refine va_sld hx hb hX hbl hbA h.2.2 (i := (nI (i + 2))) (vp_in_nI (by omega) (by omega)) dL_law_852 ?_
  refine lv_cgi (y := xs (i + 2)) (nn_at xs (by omega)) ?_
  refine lv_aload_n hx hb dL_law_853 rfl (lv_at hl 0 rfl) ?_
  refine lv_iload hx hb dL_law_854 (lv_at hl 4 rfl) ?_
  refine lv_iconst (v := 3) hx hb dL_law_856 (by decide) ?_
  refine lv_iadd hx hb dL_law_857 ?_
  refine lv_cgi (y := nI (i + 3)) (ni_k i 3) ?_
  refine va_sld hx hb hX hbl hbA h.2.2 (i := (nI (i + 3))) (vp_in_nI (by omega) (by omega)) dL_law_858 ?_
  refine lv_cgi (y := xs (i + 3)) (nn_at xs (by omega)) ?_
  have hp := (pmD px_11 : List.Perm (lW G ad md ou ng nw tn nl ne gn nb ns l1 l2 l3 tf l0 lf lt en ef et ep pr py ld ll lc bd bl sd sl ag z la tk tz lo wt tv D gc td tl fd st ca cs cb cd so bo rf of I F rw gd gl : va_W) _)
  refine k_i C h hp (r_runV C h hp 0 rfl rfl (As := [.int (xs (i + 1)), .int (xs (i + 2)), .int (xs (i + 3))]) (rest := []) (h_rowN l G ad ng nw td tl fd st nb ns bd bl sd sl so bo ag rf wt (xs (i + 1)) (xs (i + 2)) (xs (i + 3)) hok) (cwV 3 C.1.1.2.2.2.2 gL_law_X9_row rfl rfl rfl (by decide +kernel) ⟨Nat.le_of_ble_eq_true rfl, Nat.le_of_ble_eq_true rfl⟩) rfl hl.1 (Nat.le_of_ble_eq_true rfl) dL_law_859 ⟨by show _ ≤ 601024; omega, by show _ ≤ 7293033; omega⟩) (fun ra ua H locs hwa h => ?_)
  have h : gS G A s (lW G ad md ou ng nw tn nl ne gn nb ns l1 l2 l3 tf l0 lf lt en ef et ep pr py ld ll lc bd bl sd sl ag z la tk tz lo wt tv D gc td tl fd st ca cs cb cd so bo rf of I F rw gd gl) H locs := gS.perm h (List.Perm.symm (pmD px_11))
  refine lv_aload_n hx hb dL_law_862 rfl (lv_at hl 2 rfl) ?_
  refine lv_aload_n hx hb dL_law_863 rfl (lv_at hl 0 rfl) ?_
  refine lv_iload hx hb dL_law_864 (lv_at hl 4 rfl) ?_
  refine lv_iconst (v := 1) hx hb dL_law_866 (by decide) ?_
  refine lv_iadd hx hb dL_law_867 ?_
  refine lv_cgi (y := nI (i + 1)) (ni_k i 1) ?_
  refine va_sld hx hb hX hbl hbA h.2.2 (i := (nI (i + 1))) (vp_in_nI (by omega) (by omega)) dL_law_868 ?_
  refine lv_cgi (y := xs (i + 1)) (nn_at xs (by omega)) ?_
  refine lv_aload_n hx hb dL_law_869 rfl (lv_at hl 0 rfl) ?_
  refine lv_iload hx hb dL_law_870 (lv_at hl 4 rfl) ?_
  refine lv_iconst (v := 2) hx hb dL_law_872 (by decide) ?_
  refine lv_iadd hx hb dL_law_873 ?_
  refine lv_cgi (y := nI (i + 2)) (ni_k i 2) ?_
  refine va_sld hx hb hX hbl hbA h.2.2 (i := (nI (i + 2))) (vp_in_nI (by omega) (by omega)) dL_law_874 ?_
  refine lv_cgi (y := xs (i + 2)) (nn_at xs (by omega)) ?_
  refine lv_aload_n hx hb dL_law_875 rfl (lv_at hl 0 rfl) ?_
  refine lv_iload hx hb dL_law_876 (lv_at hl 4 rfl) ?_
  refine lv_iconst (v := 3) hx hb dL_law_878 (by decide) ?_
  refine lv_iadd hx hb dL_law_879 ?_
  refine lv_cgi (y := nI (i + 3)) (ni_k i 3) ?_
  refine va_sld hx hb hX hbl hbA h.2.2 (i := (nI (i + 3))) (vp_in_nI (by omega) (by omega)) dL_law_880 ?_
  refine lv_cgi (y := xs (i + 3)) (nn_at xs (by omega)) ?_
  have hp := (pmD px_1 : List.Perm (lW G ad md ou ng nw tn nl ne gn nb ns l1 l2 l3 tf l0 lf lt en ef et ep pr py ld ll lc bd bl sd sl ag z la tk tz lo wt tv D gc td tl fd st ca cs cb cd so bo rf of I F rw gd gl : va_W) _)
  refine k_i C h hp (r_runV C h hp 0 rfl rfl (As := [.int (xs (i + 1)), .int (xs (i + 2)), .int (xs (i + 3))]) (rest := [.int ra]) (m_rowN l G md I F rw gd gl (xs (i + 1)) (xs (i + 2)) (xs (i + 3)) hok) (cwV 3 C.1.1.2.2.2.2 gL_law_X10_row rfl rfl rfl (by decide +kernel) ⟨Nat.le_of_ble_eq_true rfl, Nat.le_of_ble_eq_true rfl⟩) rfl hl.1 (Nat.le_of_ble_eq_true rfl) dL_law_881 ⟨by show _ ≤ 601024; omega, by show _ ≤ 7293033; omega⟩) (fun rb ub H locs hwb h => ?_)
  have h : gS G A s (lW G ad md ou ng nw tn nl ne gn nb ns l1 l2 l3 tf l0 lf lt en ef et ep pr py ld ll lc bd bl sd sl ag z la tk tz lo wt tv D gc td tl fd st ca cs cb cd so bo rf of ((mRowN I).2) F rw gd gl) H locs := gS.perm h (List.Perm.symm (pmD px_1))
  have hq : ra = rb := by rw [hwa, hwb]; rfl
  refine lv_icmp_eq (tgt := 1074) hx hb dL_law_884 (by decide) (fun c_884 => ?_) (fun c_884 => ?_)
  · exact kx (lW G ad md ou ng nw tn nl ne gn nb ns l1 l2 l3 tf l0 lf lt en ef et ep pr py ld ll lc bd bl sd sl ag z la tk tz lo wt tv D gc td tl fd st ca cs cb cd so bo rf of ((mRowN I).2) F rw gd gl) _ _ _ _ ls ⟨ng, nw, tn, nl, ne, gn, nb, ns, l1, l2, l3, tf, l0, lf, lt, en, ef, et, ep, pr, py, ld, ll, lc, bd, bl, sd, sl, ag, z, la, tk, tz, lo, wt, tv, D, gc, td, tl, fd, st, ca, cs, cb, cd, so, bo, rf, of, ((mRowN I).2), F, rw, gd, gl, L, rfl, (hm_jm (jm_0 I 0) hm), by omega, by omega⟩ h (lv_sub hl [0, 1, 2, 3, 4] rfl)
  · exact absurd (hq) c_884

set_option maxHeartbeats 4000000 in
set_option maxRecDepth 100000 in
theorem lc_row0 {p : Program} {l : Launch} {e : Env} {s : State} {m : MethodId} {args : Array Value} {below : List Frame} {meth : Method} {c : Code} {cells slots : Nat} {Q : State → Prop} {G : gG} {A : Nat → Prop} (C : gC p m c cL_law 8 s args wsL_law RL G A) (ad md : Nat → Nat) (ou b Ls : Nat) (xs : Nat → Int32) (hX : va_X b Ls xs s s.heap) (hbl : b < s.heap.size) (hbA : ¬ A b) (hLs : Ls ≤ 3072) (i j : Nat) (hij : i = 6 * j) (hi6 : i + 6 ≤ Ls) (ng : Nat) (nw : Nat) (tn : Nat) (nl : Nat) (ne : Nat) (gn : Nat) (nb : Nat) (ns : Nat) (l1 : Nat) (l2 : Nat) (l3 : Nat) (tf : Nat → Int32) (l0 : Nat → Int32) (lf : Nat → Int32) (lt : Nat → Int32) (en : Nat → Int32) (ef : Nat → Int32) (et : Nat → Int32) (ep : Nat → Int32) (pr : Nat → Int32) (py : Nat → Int32) (ld : Nat → Int32) (ll : Nat → Int32) (lc : Nat → Int32) (bd : Nat → Int32) (bl : Nat → Int32) (sd : Nat → Int32) (sl : Nat → Int32) (ag : Nat → Int32) (z : RS) (la : Nat → Nat) (tk : Nat → Nat) (tz : Nat → Nat) (lo : Nat → Nat) (wt : Nat → Nat) (tv : Nat → Nat → Int32) (D : Nat → Nat → Int32) (gc : Int32) (td : Int32) (tl : Int32) (fd : Int32) (st : Int32) (ca : Int32) (cs : Int32) (cb : Int32) (cd : Int32) (so : Nat → Option Nat) (bo : Nat → Option Nat) (rf : Nat → Option Nat) (of : Nat → Int64) (I : Nat → Int32) (F : Nat → Nat → Int32) (rw : Nat) (gd : Int64) (gl : Int64) (L : Nat → Nat) (hm : hmR tn tf nl l0 lf lt tz tv ne en ef et ep ng D pr gn gc ld ll lc nw nb ns bd bl sd sl td tl fd st so ca cs cb cd I F L) (hcb : cells ≤ 200 + 10 * j + ltC gn) (hsb : slots ≤ 100000 + 300 * j + ltS gn) (ek : (xs (i + 1)) = 0) (kx : ∀ (W9 : va_W) (cells slots : Nat) (H : Heap) (locs : List Loc) (ls : Array Slot), lwI G ad md ou (j + 1) W9 cells slots → gS G A s W9 H locs → lv_has ls 8 [(0, .ref b), (1, .ref (ad 0)), (2, .ref (md 0)), (3, .ref ou), (4, .int (nI i))] → W p l e room_1 s m args below meth c H locs cells slots Q (F0 m 1074 ls [])) (H : Heap) (locs : List Loc) (ls : Array Slot) (h : gS G A s (lW G ad md ou ng nw tn nl ne gn nb ns l1 l2 l3 tf l0 lf lt en ef et ep pr py ld ll lc bd bl sd sl ag z la tk tz lo wt tv D gc td tl fd st ca cs cb cd so bo rf of I F rw gd gl) H locs) (hl : lv_has ls 8 [(0, .ref b), (1, .ref (ad 0)), (2, .ref (md 0)), (3, .ref ou), (4, .int (nI i))]) : W p l e room_1 s m args below meth c H locs cells slots Q (F0 m 840 ls []) := by
  have hx := C.1.1.1
  have hb := C.1.1.2.1
  have hlt := lt_b gn
  have hm9 := hm
  obtain ⟨hT, hL, hE, hG, hP, hD, hN, hB, hC⟩ := hm9
  refine lv_aload_n hx hb dL_law_840 rfl (lv_at hl 1 rfl) ?_
  refine lv_aload_n hx hb dL_law_841 rfl (lv_at hl 0 rfl) ?_
  refine lv_iload hx hb dL_law_842 (lv_at hl 4 rfl) ?_
  refine lv_iconst (v := 1) hx hb dL_law_844 (by decide) ?_
  refine lv_iadd hx hb dL_law_845 ?_
  refine lv_cgi (y := nI (i + 1)) (ni_k i 1) ?_
  refine va_sld hx hb hX hbl hbA h.2.2 (i := (nI (i + 1))) (vp_in_nI (by omega) (by omega)) dL_law_846 ?_
  refine lv_cgi (y := xs (i + 1)) (nn_at xs (by omega)) ?_
  refine lv_cgi (y := 0) (ek) ?_
  refine lv_aload_n hx hb dL_law_847 rfl (lv_at hl 0 rfl) ?_
  refine lv_iload hx hb dL_law_848 (lv_at hl 4 rfl) ?_
  refine lv_iconst (v := 2) hx hb dL_law_850 (by decide) ?_
  refine lv_iadd hx hb dL_law_851 ?_
  refine lv_cgi (y := nI (i + 2)) (ni_k i 2) ?_
  refine va_sld hx hb hX hbl hbA h.2.2 (i := (nI (i + 2))) (vp_in_nI (by omega) (by omega)) dL_law_852 ?_
  refine lv_cgi (y := xs (i + 2)) (nn_at xs (by omega)) ?_
  refine lv_aload_n hx hb dL_law_853 rfl (lv_at hl 0 rfl) ?_
  refine lv_iload hx hb dL_law_854 (lv_at hl 4 rfl) ?_
  refine lv_iconst (v := 3) hx hb dL_law_856 (by decide) ?_
  refine lv_iadd hx hb dL_law_857 ?_
  refine lv_cgi (y := nI (i + 3)) (ni_k i 3) ?_
  refine va_sld hx hb hX hbl hbA h.2.2 (i := (nI (i + 3))) (vp_in_nI (by omega) (by omega)) dL_law_858 ?_
  refine lv_cgi (y := xs (i + 3)) (nn_at xs (by omega)) ?_
  have hp := (pmD px_11 : List.Perm (lW G ad md ou ng nw tn nl ne gn nb ns l1 l2 l3 tf l0 lf lt en ef et ep pr py ld ll lc bd bl sd sl ag z la tk tz lo wt tv D gc td tl fd st ca cs cb cd so bo rf of I F rw gd gl : va_W) _)
  refine k_i C h hp (r_runV C h hp 0 rfl rfl (As := [.int 0, .int (xs (i + 2)), .int (xs (i + 3))]) (rest := []) (h_row0 l G ad ng nw td tl fd st nb ns bd bl sd sl so bo ag rf wt hB.1.1 hB.1.2.1 (xs (i + 2)) (xs (i + 3))) (cwV 3 C.1.1.2.2.2.2 gL_law_X9_row rfl rfl rfl (by decide +kernel) ⟨Nat.le_of_ble_eq_true rfl, Nat.le_of_ble_eq_true rfl⟩) rfl hl.1 (Nat.le_of_ble_eq_true rfl) dL_law_859 ⟨by show _ ≤ 601024; omega, by show _ ≤ 7293033; omega⟩) (fun ra ua H locs hwa h => ?_)
  have h : gS G A s (lW G ad md ou ng nw tn nl ne gn (if hRok (xs (i + 2)) (xs (i + 3)) = true then tyN nb else nb) ns l1 l2 l3 tf l0 lf lt en ef et ep pr py ld ll lc (if hRok (xs (i + 2)) (xs (i + 3)) = true then tyU nb bd (xs (i + 2)) else bd) (if hRok (xs (i + 2)) (xs (i + 3)) = true then tyU nb bl (xs (i + 3)) else bl) sd sl ag z la tk tz lo wt tv D gc td tl fd (if hRok (xs (i + 2)) (xs (i + 3)) = true then 0 else st) ca cs cb cd so bo rf of I F rw gd gl) H locs := gS.perm h (List.Perm.symm (pmD px_11))
  refine lv_aload_n hx hb dL_law_862 rfl (lv_at hl 2 rfl) ?_
  refine lv_aload_n hx hb dL_law_863 rfl (lv_at hl 0 rfl) ?_
  refine lv_iload hx hb dL_law_864 (lv_at hl 4 rfl) ?_
  refine lv_iconst (v := 1) hx hb dL_law_866 (by decide) ?_
  refine lv_iadd hx hb dL_law_867 ?_
  refine lv_cgi (y := nI (i + 1)) (ni_k i 1) ?_
  refine va_sld hx hb hX hbl hbA h.2.2 (i := (nI (i + 1))) (vp_in_nI (by omega) (by omega)) dL_law_868 ?_
  refine lv_cgi (y := xs (i + 1)) (nn_at xs (by omega)) ?_
  refine lv_cgi (y := 0) (ek) ?_
  refine lv_aload_n hx hb dL_law_869 rfl (lv_at hl 0 rfl) ?_
  refine lv_iload hx hb dL_law_870 (lv_at hl 4 rfl) ?_
  refine lv_iconst (v := 2) hx hb dL_law_872 (by decide) ?_
  refine lv_iadd hx hb dL_law_873 ?_
  refine lv_cgi (y := nI (i + 2)) (ni_k i 2) ?_
  refine va_sld hx hb hX hbl hbA h.2.2 (i := (nI (i + 2))) (vp_in_nI (by omega) (by omega)) dL_law_874 ?_
  refine lv_cgi (y := xs (i + 2)) (nn_at xs (by omega)) ?_
  refine lv_aload_n hx hb dL_law_875 rfl (lv_at hl 0 rfl) ?_
  refine lv_iload hx hb dL_law_876 (lv_at hl 4 rfl) ?_
  refine lv_iconst (v := 3) hx hb dL_law_878 (by decide) ?_
  refine lv_iadd hx hb dL_law_879 ?_
  refine lv_cgi (y := nI (i + 3)) (ni_k i 3) ?_
  refine va_sld hx hb hX hbl hbA h.2.2 (i := (nI (i + 3))) (vp_in_nI (by omega) (by omega)) dL_law_880 ?_
  refine lv_cgi (y := xs (i + 3)) (nn_at xs (by omega)) ?_
  have hp := (pmD px_1 : List.Perm (lW G ad md ou ng nw tn nl ne gn (if hRok (xs (i + 2)) (xs (i + 3)) = true then tyN nb else nb) ns l1 l2 l3 tf l0 lf lt en ef et ep pr py ld ll lc (if hRok (xs (i + 2)) (xs (i + 3)) = true then tyU nb bd (xs (i + 2)) else bd) (if hRok (xs (i + 2)) (xs (i + 3)) = true then tyU nb bl (xs (i + 3)) else bl) sd sl ag z la tk tz lo wt tv D gc td tl fd (if hRok (xs (i + 2)) (xs (i + 3)) = true then 0 else st) ca cs cb cd so bo rf of I F rw gd gl : va_W) _)
  refine k_i C h hp (r_runV C h hp 0 rfl rfl (As := [.int 0, .int (xs (i + 2)), .int (xs (i + 3))]) (rest := [.int ra]) (m_row l G md I F rw gd gl 0 nb (xs (i + 2)) (xs (i + 3)) (by decide) hB.1.2.2.1 hB.1.1) (cwV 3 C.1.1.2.2.2.2 gL_law_X10_row rfl rfl rfl (by decide +kernel) ⟨Nat.le_of_ble_eq_true rfl, Nat.le_of_ble_eq_true rfl⟩) rfl hl.1 (Nat.le_of_ble_eq_true rfl) dL_law_881 ⟨by show _ ≤ 601024; omega, by show _ ≤ 7293033; omega⟩) (fun rb ub H locs hwb h => ?_)
  have h : gS G A s (lW G ad md ou ng nw tn nl ne gn (if hRok (xs (i + 2)) (xs (i + 3)) = true then tyN nb else nb) ns l1 l2 l3 tf l0 lf lt en ef et ep pr py ld ll lc (if hRok (xs (i + 2)) (xs (i + 3)) = true then tyU nb bd (xs (i + 2)) else bd) (if hRok (xs (i + 2)) (xs (i + 3)) = true then tyU nb bl (xs (i + 3)) else bl) sd sl ag z la tk tz lo wt tv D gc td tl fd (if hRok (xs (i + 2)) (xs (i + 3)) = true then 0 else st) ca cs cb cd so bo rf of ((mRow I F 0 nb (xs (i + 2)) (xs (i + 3))).2.1) ((mRow I F 0 nb (xs (i + 2)) (xs (i + 3))).2.2) rw gd gl) H locs := gS.perm h (List.Perm.symm (pmD px_1))
  have hq := la_row0 (xs (i + 2)) (xs (i + 3)) hm
  rw [← hwa, ← hwb] at hq
  refine lv_icmp_eq (tgt := 1074) hx hb dL_law_884 (by decide) (fun c_884 => ?_) (fun c_884 => ?_)
  · exact kx (lW G ad md ou ng nw tn nl ne gn (if hRok (xs (i + 2)) (xs (i + 3)) = true then tyN nb else nb) ns l1 l2 l3 tf l0 lf lt en ef et ep pr py ld ll lc (if hRok (xs (i + 2)) (xs (i + 3)) = true then tyU nb bd (xs (i + 2)) else bd) (if hRok (xs (i + 2)) (xs (i + 3)) = true then tyU nb bl (xs (i + 3)) else bl) sd sl ag z la tk tz lo wt tv D gc td tl fd (if hRok (xs (i + 2)) (xs (i + 3)) = true then 0 else st) ca cs cb cd so bo rf of ((mRow I F 0 nb (xs (i + 2)) (xs (i + 3))).2.1) ((mRow I F 0 nb (xs (i + 2)) (xs (i + 3))).2.2) rw gd gl) _ _ _ _ ls ⟨ng, nw, tn, nl, ne, gn, (if hRok (xs (i + 2)) (xs (i + 3)) = true then tyN nb else nb), ns, l1, l2, l3, tf, l0, lf, lt, en, ef, et, ep, pr, py, ld, ll, lc, (if hRok (xs (i + 2)) (xs (i + 3)) = true then tyU nb bd (xs (i + 2)) else bd), (if hRok (xs (i + 2)) (xs (i + 3)) = true then tyU nb bl (xs (i + 3)) else bl), sd, sl, ag, z, la, tk, tz, lo, wt, tv, D, gc, td, tl, fd, (if hRok (xs (i + 2)) (xs (i + 3)) = true then 0 else st), ca, cs, cb, cd, so, bo, rf, of, ((mRow I F 0 nb (xs (i + 2)) (xs (i + 3))).2.1), ((mRow I F 0 nb (xs (i + 2)) (xs (i + 3))).2.2), rw, gd, gl, L, rfl, hq.2, by omega, by omega⟩ h (lv_sub hl [0, 1, 2, 3, 4] rfl)
  · exact absurd (hq.1) c_884

set_option maxHeartbeats 4000000 in
set_option maxRecDepth 100000 in
theorem lc_row1 {p : Program} {l : Launch} {e : Env} {s : State} {m : MethodId} {args : Array Value} {below : List Frame} {meth : Method} {c : Code} {cells slots : Nat} {Q : State → Prop} {G : gG} {A : Nat → Prop} (C : gC p m c cL_law 8 s args wsL_law RL G A) (ad md : Nat → Nat) (ou b Ls : Nat) (xs : Nat → Int32) (hX : va_X b Ls xs s s.heap) (hbl : b < s.heap.size) (hbA : ¬ A b) (hLs : Ls ≤ 3072) (i j : Nat) (hij : i = 6 * j) (hi6 : i + 6 ≤ Ls) (ng : Nat) (nw : Nat) (tn : Nat) (nl : Nat) (ne : Nat) (gn : Nat) (nb : Nat) (ns : Nat) (l1 : Nat) (l2 : Nat) (l3 : Nat) (tf : Nat → Int32) (l0 : Nat → Int32) (lf : Nat → Int32) (lt : Nat → Int32) (en : Nat → Int32) (ef : Nat → Int32) (et : Nat → Int32) (ep : Nat → Int32) (pr : Nat → Int32) (py : Nat → Int32) (ld : Nat → Int32) (ll : Nat → Int32) (lc : Nat → Int32) (bd : Nat → Int32) (bl : Nat → Int32) (sd : Nat → Int32) (sl : Nat → Int32) (ag : Nat → Int32) (z : RS) (la : Nat → Nat) (tk : Nat → Nat) (tz : Nat → Nat) (lo : Nat → Nat) (wt : Nat → Nat) (tv : Nat → Nat → Int32) (D : Nat → Nat → Int32) (gc : Int32) (td : Int32) (tl : Int32) (fd : Int32) (st : Int32) (ca : Int32) (cs : Int32) (cb : Int32) (cd : Int32) (so : Nat → Option Nat) (bo : Nat → Option Nat) (rf : Nat → Option Nat) (of : Nat → Int64) (I : Nat → Int32) (F : Nat → Nat → Int32) (rw : Nat) (gd : Int64) (gl : Int64) (L : Nat → Nat) (hm : hmR tn tf nl l0 lf lt tz tv ne en ef et ep ng D pr gn gc ld ll lc nw nb ns bd bl sd sl td tl fd st so ca cs cb cd I F L) (hcb : cells ≤ 200 + 10 * j + ltC gn) (hsb : slots ≤ 100000 + 300 * j + ltS gn) (ek : (xs (i + 1)) = 1) (kx : ∀ (W9 : va_W) (cells slots : Nat) (H : Heap) (locs : List Loc) (ls : Array Slot), lwI G ad md ou (j + 1) W9 cells slots → gS G A s W9 H locs → lv_has ls 8 [(0, .ref b), (1, .ref (ad 0)), (2, .ref (md 0)), (3, .ref ou), (4, .int (nI i))] → W p l e room_1 s m args below meth c H locs cells slots Q (F0 m 1074 ls [])) (H : Heap) (locs : List Loc) (ls : Array Slot) (h : gS G A s (lW G ad md ou ng nw tn nl ne gn nb ns l1 l2 l3 tf l0 lf lt en ef et ep pr py ld ll lc bd bl sd sl ag z la tk tz lo wt tv D gc td tl fd st ca cs cb cd so bo rf of I F rw gd gl) H locs) (hl : lv_has ls 8 [(0, .ref b), (1, .ref (ad 0)), (2, .ref (md 0)), (3, .ref ou), (4, .int (nI i))]) : W p l e room_1 s m args below meth c H locs cells slots Q (F0 m 840 ls []) := by
  have hx := C.1.1.1
  have hb := C.1.1.2.1
  have hlt := lt_b gn
  have hm9 := hm
  obtain ⟨hT, hL, hE, hG, hP, hD, hN, hB, hC⟩ := hm9
  refine lv_aload_n hx hb dL_law_840 rfl (lv_at hl 1 rfl) ?_
  refine lv_aload_n hx hb dL_law_841 rfl (lv_at hl 0 rfl) ?_
  refine lv_iload hx hb dL_law_842 (lv_at hl 4 rfl) ?_
  refine lv_iconst (v := 1) hx hb dL_law_844 (by decide) ?_
  refine lv_iadd hx hb dL_law_845 ?_
  refine lv_cgi (y := nI (i + 1)) (ni_k i 1) ?_
  refine va_sld hx hb hX hbl hbA h.2.2 (i := (nI (i + 1))) (vp_in_nI (by omega) (by omega)) dL_law_846 ?_
  refine lv_cgi (y := xs (i + 1)) (nn_at xs (by omega)) ?_
  refine lv_cgi (y := 1) (ek) ?_
  refine lv_aload_n hx hb dL_law_847 rfl (lv_at hl 0 rfl) ?_
  refine lv_iload hx hb dL_law_848 (lv_at hl 4 rfl) ?_
  refine lv_iconst (v := 2) hx hb dL_law_850 (by decide) ?_
  refine lv_iadd hx hb dL_law_851 ?_
  refine lv_cgi (y := nI (i + 2)) (ni_k i 2) ?_
  refine va_sld hx hb hX hbl hbA h.2.2 (i := (nI (i + 2))) (vp_in_nI (by omega) (by omega)) dL_law_852 ?_
  refine lv_cgi (y := xs (i + 2)) (nn_at xs (by omega)) ?_
  refine lv_aload_n hx hb dL_law_853 rfl (lv_at hl 0 rfl) ?_
  refine lv_iload hx hb dL_law_854 (lv_at hl 4 rfl) ?_
  refine lv_iconst (v := 3) hx hb dL_law_856 (by decide) ?_
  refine lv_iadd hx hb dL_law_857 ?_
  refine lv_cgi (y := nI (i + 3)) (ni_k i 3) ?_
  refine va_sld hx hb hX hbl hbA h.2.2 (i := (nI (i + 3))) (vp_in_nI (by omega) (by omega)) dL_law_858 ?_
  refine lv_cgi (y := xs (i + 3)) (nn_at xs (by omega)) ?_
  have hp := (pmD px_11 : List.Perm (lW G ad md ou ng nw tn nl ne gn nb ns l1 l2 l3 tf l0 lf lt en ef et ep pr py ld ll lc bd bl sd sl ag z la tk tz lo wt tv D gc td tl fd st ca cs cb cd so bo rf of I F rw gd gl : va_W) _)
  refine k_i C h hp (r_runV C h hp 0 rfl rfl (As := [.int 1, .int (xs (i + 2)), .int (xs (i + 3))]) (rest := []) (h_row1 l G ad ng nw td tl fd st nb ns bd bl sd sl so bo ag rf wt hB.1.1 hB.1.2.1 (xs (i + 2)) (xs (i + 3))) (cwV 3 C.1.1.2.2.2.2 gL_law_X9_row rfl rfl rfl (by decide +kernel) ⟨Nat.le_of_ble_eq_true rfl, Nat.le_of_ble_eq_true rfl⟩) rfl hl.1 (Nat.le_of_ble_eq_true rfl) dL_law_859 ⟨by show _ ≤ 601024; omega, by show _ ≤ 7293033; omega⟩) (fun ra ua H locs hwa h => ?_)
  have h : gS G A s (lW G ad md ou ng nw tn nl ne gn nb (if hRok (xs (i + 2)) (xs (i + 3)) = true then tyN ns else ns) l1 l2 l3 tf l0 lf lt en ef et ep pr py ld ll lc bd bl (if hRok (xs (i + 2)) (xs (i + 3)) = true then tyU ns sd (xs (i + 2)) else sd) (if hRok (xs (i + 2)) (xs (i + 3)) = true then tyU ns sl (xs (i + 3)) else sl) ag z la tk tz lo wt tv D gc td tl fd (if hRok (xs (i + 2)) (xs (i + 3)) = true then 0 else st) ca cs cb cd so bo rf of I F rw gd gl) H locs := gS.perm h (List.Perm.symm (pmD px_11))
  refine lv_aload_n hx hb dL_law_862 rfl (lv_at hl 2 rfl) ?_
  refine lv_aload_n hx hb dL_law_863 rfl (lv_at hl 0 rfl) ?_
  refine lv_iload hx hb dL_law_864 (lv_at hl 4 rfl) ?_
  refine lv_iconst (v := 1) hx hb dL_law_866 (by decide) ?_
  refine lv_iadd hx hb dL_law_867 ?_
  refine lv_cgi (y := nI (i + 1)) (ni_k i 1) ?_
  refine va_sld hx hb hX hbl hbA h.2.2 (i := (nI (i + 1))) (vp_in_nI (by omega) (by omega)) dL_law_868 ?_
  refine lv_cgi (y := xs (i + 1)) (nn_at xs (by omega)) ?_
  refine lv_cgi (y := 1) (ek) ?_
  refine lv_aload_n hx hb dL_law_869 rfl (lv_at hl 0 rfl) ?_
  refine lv_iload hx hb dL_law_870 (lv_at hl 4 rfl) ?_
  refine lv_iconst (v := 2) hx hb dL_law_872 (by decide) ?_
  refine lv_iadd hx hb dL_law_873 ?_
  refine lv_cgi (y := nI (i + 2)) (ni_k i 2) ?_
  refine va_sld hx hb hX hbl hbA h.2.2 (i := (nI (i + 2))) (vp_in_nI (by omega) (by omega)) dL_law_874 ?_
  refine lv_cgi (y := xs (i + 2)) (nn_at xs (by omega)) ?_
  refine lv_aload_n hx hb dL_law_875 rfl (lv_at hl 0 rfl) ?_
  refine lv_iload hx hb dL_law_876 (lv_at hl 4 rfl) ?_
  refine lv_iconst (v := 3) hx hb dL_law_878 (by decide) ?_
  refine lv_iadd hx hb dL_law_879 ?_
  refine lv_cgi (y := nI (i + 3)) (ni_k i 3) ?_
  refine va_sld hx hb hX hbl hbA h.2.2 (i := (nI (i + 3))) (vp_in_nI (by omega) (by omega)) dL_law_880 ?_
  refine lv_cgi (y := xs (i + 3)) (nn_at xs (by omega)) ?_
  have hp := (pmD px_1 : List.Perm (lW G ad md ou ng nw tn nl ne gn nb (if hRok (xs (i + 2)) (xs (i + 3)) = true then tyN ns else ns) l1 l2 l3 tf l0 lf lt en ef et ep pr py ld ll lc bd bl (if hRok (xs (i + 2)) (xs (i + 3)) = true then tyU ns sd (xs (i + 2)) else sd) (if hRok (xs (i + 2)) (xs (i + 3)) = true then tyU ns sl (xs (i + 3)) else sl) ag z la tk tz lo wt tv D gc td tl fd (if hRok (xs (i + 2)) (xs (i + 3)) = true then 0 else st) ca cs cb cd so bo rf of I F rw gd gl : va_W) _)
  refine k_i C h hp (r_runV C h hp 0 rfl rfl (As := [.int 1, .int (xs (i + 2)), .int (xs (i + 3))]) (rest := [.int ra]) (m_row l G md I F rw gd gl 1 ns (xs (i + 2)) (xs (i + 3)) (by decide) hB.1.2.2.2 hB.1.2.1) (cwV 3 C.1.1.2.2.2.2 gL_law_X10_row rfl rfl rfl (by decide +kernel) ⟨Nat.le_of_ble_eq_true rfl, Nat.le_of_ble_eq_true rfl⟩) rfl hl.1 (Nat.le_of_ble_eq_true rfl) dL_law_881 ⟨by show _ ≤ 601024; omega, by show _ ≤ 7293033; omega⟩) (fun rb ub H locs hwb h => ?_)
  have h : gS G A s (lW G ad md ou ng nw tn nl ne gn nb (if hRok (xs (i + 2)) (xs (i + 3)) = true then tyN ns else ns) l1 l2 l3 tf l0 lf lt en ef et ep pr py ld ll lc bd bl (if hRok (xs (i + 2)) (xs (i + 3)) = true then tyU ns sd (xs (i + 2)) else sd) (if hRok (xs (i + 2)) (xs (i + 3)) = true then tyU ns sl (xs (i + 3)) else sl) ag z la tk tz lo wt tv D gc td tl fd (if hRok (xs (i + 2)) (xs (i + 3)) = true then 0 else st) ca cs cb cd so bo rf of ((mRow I F 1 ns (xs (i + 2)) (xs (i + 3))).2.1) ((mRow I F 1 ns (xs (i + 2)) (xs (i + 3))).2.2) rw gd gl) H locs := gS.perm h (List.Perm.symm (pmD px_1))
  have hq := la_row1 (xs (i + 2)) (xs (i + 3)) hm
  rw [← hwa, ← hwb] at hq
  refine lv_icmp_eq (tgt := 1074) hx hb dL_law_884 (by decide) (fun c_884 => ?_) (fun c_884 => ?_)
  · exact kx (lW G ad md ou ng nw tn nl ne gn nb (if hRok (xs (i + 2)) (xs (i + 3)) = true then tyN ns else ns) l1 l2 l3 tf l0 lf lt en ef et ep pr py ld ll lc bd bl (if hRok (xs (i + 2)) (xs (i + 3)) = true then tyU ns sd (xs (i + 2)) else sd) (if hRok (xs (i + 2)) (xs (i + 3)) = true then tyU ns sl (xs (i + 3)) else sl) ag z la tk tz lo wt tv D gc td tl fd (if hRok (xs (i + 2)) (xs (i + 3)) = true then 0 else st) ca cs cb cd so bo rf of ((mRow I F 1 ns (xs (i + 2)) (xs (i + 3))).2.1) ((mRow I F 1 ns (xs (i + 2)) (xs (i + 3))).2.2) rw gd gl) _ _ _ _ ls ⟨ng, nw, tn, nl, ne, gn, nb, (if hRok (xs (i + 2)) (xs (i + 3)) = true then tyN ns else ns), l1, l2, l3, tf, l0, lf, lt, en, ef, et, ep, pr, py, ld, ll, lc, bd, bl, (if hRok (xs (i + 2)) (xs (i + 3)) = true then tyU ns sd (xs (i + 2)) else sd), (if hRok (xs (i + 2)) (xs (i + 3)) = true then tyU ns sl (xs (i + 3)) else sl), ag, z, la, tk, tz, lo, wt, tv, D, gc, td, tl, fd, (if hRok (xs (i + 2)) (xs (i + 3)) = true then 0 else st), ca, cs, cb, cd, so, bo, rf, of, ((mRow I F 1 ns (xs (i + 2)) (xs (i + 3))).2.1), ((mRow I F 1 ns (xs (i + 2)) (xs (i + 3))).2.2), rw, gd, gl, L, rfl, hq.2, by omega, by omega⟩ h (lv_sub hl [0, 1, 2, 3, 4] rfl)
  · exact absurd (hq.1) c_884

set_option maxHeartbeats 4000000 in
set_option maxRecDepth 100000 in
theorem lc_clear {p : Program} {l : Launch} {e : Env} {s : State} {m : MethodId} {args : Array Value} {below : List Frame} {meth : Method} {c : Code} {cells slots : Nat} {Q : State → Prop} {G : gG} {A : Nat → Prop} (C : gC p m c cL_law 8 s args wsL_law RL G A) (ad md : Nat → Nat) (ou b Ls : Nat) (xs : Nat → Int32) (hX : va_X b Ls xs s s.heap) (hbl : b < s.heap.size) (hbA : ¬ A b) (hLs : Ls ≤ 3072) (i j : Nat) (hij : i = 6 * j) (hi6 : i + 6 ≤ Ls) (ng : Nat) (nw : Nat) (tn : Nat) (nl : Nat) (ne : Nat) (gn : Nat) (nb : Nat) (ns : Nat) (l1 : Nat) (l2 : Nat) (l3 : Nat) (tf : Nat → Int32) (l0 : Nat → Int32) (lf : Nat → Int32) (lt : Nat → Int32) (en : Nat → Int32) (ef : Nat → Int32) (et : Nat → Int32) (ep : Nat → Int32) (pr : Nat → Int32) (py : Nat → Int32) (ld : Nat → Int32) (ll : Nat → Int32) (lc : Nat → Int32) (bd : Nat → Int32) (bl : Nat → Int32) (sd : Nat → Int32) (sl : Nat → Int32) (ag : Nat → Int32) (z : RS) (la : Nat → Nat) (tk : Nat → Nat) (tz : Nat → Nat) (lo : Nat → Nat) (wt : Nat → Nat) (tv : Nat → Nat → Int32) (D : Nat → Nat → Int32) (gc : Int32) (td : Int32) (tl : Int32) (fd : Int32) (st : Int32) (ca : Int32) (cs : Int32) (cb : Int32) (cd : Int32) (so : Nat → Option Nat) (bo : Nat → Option Nat) (rf : Nat → Option Nat) (of : Nat → Int64) (I : Nat → Int32) (F : Nat → Nat → Int32) (rw : Nat) (gd : Int64) (gl : Int64) (L : Nat → Nat) (hm : hmR tn tf nl l0 lf lt tz tv ne en ef et ep ng D pr gn gc ld ll lc nw nb ns bd bl sd sl td tl fd st so ca cs cb cd I F L) (hcb : cells ≤ 200 + 10 * j + ltC gn) (hsb : slots ≤ 100000 + 300 * j + ltS gn)  (kx : ∀ (W9 : va_W) (cells slots : Nat) (H : Heap) (locs : List Loc) (ls : Array Slot), lwI G ad md ou (j + 1) W9 cells slots → gS G A s W9 H locs → lv_has ls 8 [(0, .ref b), (1, .ref (ad 0)), (2, .ref (md 0)), (3, .ref ou), (4, .int (nI i))] → W p l e room_1 s m args below meth c H locs cells slots Q (F0 m 1074 ls [])) (H : Heap) (locs : List Loc) (ls : Array Slot) (h : gS G A s (lW G ad md ou ng nw tn nl ne gn nb ns l1 l2 l3 tf l0 lf lt en ef et ep pr py ld ll lc bd bl sd sl ag z la tk tz lo wt tv D gc td tl fd st ca cs cb cd so bo rf of I F rw gd gl) H locs) (hl : lv_has ls 8 [(0, .ref b), (1, .ref (ad 0)), (2, .ref (md 0)), (3, .ref ou), (4, .int (nI i))]) : W p l e room_1 s m args below meth c H locs cells slots Q (F0 m 889 ls []) := by
  have hx := C.1.1.1
  have hb := C.1.1.2.1
  have hlt := lt_b gn
  have hm9 := hm
  obtain ⟨hT, hL, hE, hG, hP, hD, hN, hB, hC⟩ := hm9
  refine lv_aload_n hx hb dL_law_889 rfl (lv_at hl 1 rfl) ?_
  have hp := (pmD px_11 : List.Perm (lW G ad md ou ng nw tn nl ne gn nb ns l1 l2 l3 tf l0 lf lt en ef et ep pr py ld ll lc bd bl sd sl ag z la tk tz lo wt tv D gc td tl fd st ca cs cb cd so bo rf of I F rw gd gl : va_W) _)
  refine k_v C h hp (r_runV C h hp 0 rfl rfl (As := []) (rest := []) (h_clear l G ad ng nw td tl fd st nb ns bd bl sd sl so bo ag rf wt) (cwV 0 C.1.1.2.2.2.2 gL_law_X9_clear rfl rfl rfl (by decide +kernel) ⟨Nat.le_of_ble_eq_true rfl, Nat.le_of_ble_eq_true rfl⟩) rfl hl.1 (Nat.le_of_ble_eq_true rfl) dL_law_890 ⟨by show _ ≤ 601024; omega, by show _ ≤ 7293033; omega⟩) (fun ua H locs hwa h => ?_)
  have h : gS G A s (lW G ad md ou ng nw tn nl ne gn 0 0 l1 l2 l3 tf l0 lf lt en ef et ep pr py ld ll lc bd bl sd sl ag z la tk tz lo wt tv D gc td tl fd 0 ca cs cb cd so bo rf of I F rw gd gl) H locs := gS.perm h (List.Perm.symm (pmD px_11))
  refine lv_aload_n hx hb dL_law_893 rfl (lv_at hl 2 rfl) ?_
  have hp := (pmD px_1 : List.Perm (lW G ad md ou ng nw tn nl ne gn 0 0 l1 l2 l3 tf l0 lf lt en ef et ep pr py ld ll lc bd bl sd sl ag z la tk tz lo wt tv D gc td tl fd 0 ca cs cb cd so bo rf of I F rw gd gl : va_W) _)
  refine k_v C h hp (r_runV C h hp 0 rfl rfl (As := []) (rest := []) (m_clear l G md I F rw gd gl) (cwV 0 C.1.1.2.2.2.2 gL_law_X10_clear rfl rfl rfl (by decide +kernel) ⟨Nat.le_of_ble_eq_true rfl, Nat.le_of_ble_eq_true rfl⟩) rfl hl.1 (Nat.le_of_ble_eq_true rfl) dL_law_894 ⟨by show _ ≤ 601024; omega, by show _ ≤ 7293033; omega⟩) (fun ub H locs hwb h => ?_)
  have h : gS G A s (lW G ad md ou ng nw tn nl ne gn 0 0 l1 l2 l3 tf l0 lf lt en ef et ep pr py ld ll lc bd bl sd sl ag z la tk tz lo wt tv D gc td tl fd 0 ca cs cb cd so bo rf of ((mClear I F).1) ((mClear I F).2) rw gd gl) H locs := gS.perm h (List.Perm.symm (pmD px_1))
  refine lv_goto (tgt := 1074) hx hb dL_law_897 (by decide) ?_
  have hq := la_clear hm
  exact kx (lW G ad md ou ng nw tn nl ne gn 0 0 l1 l2 l3 tf l0 lf lt en ef et ep pr py ld ll lc bd bl sd sl ag z la tk tz lo wt tv D gc td tl fd 0 ca cs cb cd so bo rf of ((mClear I F).1) ((mClear I F).2) rw gd gl) _ _ _ _ ls ⟨ng, nw, tn, nl, ne, gn, 0, 0, l1, l2, l3, tf, l0, lf, lt, en, ef, et, ep, pr, py, ld, ll, lc, bd, bl, sd, sl, ag, z, la, tk, tz, lo, wt, tv, D, gc, td, tl, fd, 0, ca, cs, cb, cd, so, bo, rf, of, ((mClear I F).1), ((mClear I F).2), rw, gd, gl, L, rfl, hq.2, by omega, by omega⟩ h (lv_sub hl [0, 1, 2, 3, 4] rfl)

set_option maxHeartbeats 4000000 in
set_option maxRecDepth 100000 in
theorem lc_allow {p : Program} {l : Launch} {e : Env} {s : State} {m : MethodId} {args : Array Value} {below : List Frame} {meth : Method} {c : Code} {cells slots : Nat} {Q : State → Prop} {G : gG} {A : Nat → Prop} (C : gC p m c cL_law 8 s args wsL_law RL G A) (ad md : Nat → Nat) (ou b Ls : Nat) (xs : Nat → Int32) (hX : va_X b Ls xs s s.heap) (hbl : b < s.heap.size) (hbA : ¬ A b) (hLs : Ls ≤ 3072) (i j : Nat) (hij : i = 6 * j) (hi6 : i + 6 ≤ Ls) (ng : Nat) (nw : Nat) (tn : Nat) (nl : Nat) (ne : Nat) (gn : Nat) (nb : Nat) (ns : Nat) (l1 : Nat) (l2 : Nat) (l3 : Nat) (tf : Nat → Int32) (l0 : Nat → Int32) (lf : Nat → Int32) (lt : Nat → Int32) (en : Nat → Int32) (ef : Nat → Int32) (et : Nat → Int32) (ep : Nat → Int32) (pr : Nat → Int32) (py : Nat → Int32) (ld : Nat → Int32) (ll : Nat → Int32) (lc : Nat → Int32) (bd : Nat → Int32) (bl : Nat → Int32) (sd : Nat → Int32) (sl : Nat → Int32) (ag : Nat → Int32) (z : RS) (la : Nat → Nat) (tk : Nat → Nat) (tz : Nat → Nat) (lo : Nat → Nat) (wt : Nat → Nat) (tv : Nat → Nat → Int32) (D : Nat → Nat → Int32) (gc : Int32) (td : Int32) (tl : Int32) (fd : Int32) (st : Int32) (ca : Int32) (cs : Int32) (cb : Int32) (cd : Int32) (so : Nat → Option Nat) (bo : Nat → Option Nat) (rf : Nat → Option Nat) (of : Nat → Int64) (I : Nat → Int32) (F : Nat → Nat → Int32) (rw : Nat) (gd : Int64) (gl : Int64) (L : Nat → Nat) (hm : hmR tn tf nl l0 lf lt tz tv ne en ef et ep ng D pr gn gc ld ll lc nw nb ns bd bl sd sl td tl fd st so ca cs cb cd I F L) (hcb : cells ≤ 200 + 10 * j + ltC gn) (hsb : slots ≤ 100000 + 300 * j + ltS gn)  (kx : ∀ (W9 : va_W) (cells slots : Nat) (H : Heap) (locs : List Loc) (ls : Array Slot), lwI G ad md ou (j + 1) W9 cells slots → gS G A s W9 H locs → lv_has ls 8 [(0, .ref b), (1, .ref (ad 0)), (2, .ref (md 0)), (3, .ref ou), (4, .int (nI i))] → W p l e room_1 s m args below meth c H locs cells slots Q (F0 m 1074 ls [])) (H : Heap) (locs : List Loc) (ls : Array Slot) (h : gS G A s (lW G ad md ou ng nw tn nl ne gn nb ns l1 l2 l3 tf l0 lf lt en ef et ep pr py ld ll lc bd bl sd sl ag z la tk tz lo wt tv D gc td tl fd st ca cs cb cd so bo rf of I F rw gd gl) H locs) (hl : lv_has ls 8 [(0, .ref b), (1, .ref (ad 0)), (2, .ref (md 0)), (3, .ref ou), (4, .int (nI i))]) : W p l e room_1 s m args below meth c H locs cells slots Q (F0 m 900 ls []) := by
  have hx := C.1.1.1
  have hb := C.1.1.2.1
  have hlt := lt_b gn
  have hm9 := hm
  obtain ⟨hT, hL, hE, hG, hP, hD, hN, hB, hC⟩ := hm9
  refine lv_aload_n hx hb dL_law_900 rfl (lv_at hl 1 rfl) ?_
  refine lv_aload_n hx hb dL_law_901 rfl (lv_at hl 0 rfl) ?_
  refine lv_iload hx hb dL_law_902 (lv_at hl 4 rfl) ?_
  refine lv_iconst (v := 1) hx hb dL_law_904 (by decide) ?_
  refine lv_iadd hx hb dL_law_905 ?_
  refine lv_cgi (y := nI (i + 1)) (ni_k i 1) ?_
  refine va_sld hx hb hX hbl hbA h.2.2 (i := (nI (i + 1))) (vp_in_nI (by omega) (by omega)) dL_law_906 ?_
  refine lv_cgi (y := xs (i + 1)) (nn_at xs (by omega)) ?_
  refine lv_aload_n hx hb dL_law_907 rfl (lv_at hl 0 rfl) ?_
  refine lv_iload hx hb dL_law_908 (lv_at hl 4 rfl) ?_
  refine lv_iconst (v := 2) hx hb dL_law_910 (by decide) ?_
  refine lv_iadd hx hb dL_law_911 ?_
  refine lv_cgi (y := nI (i + 2)) (ni_k i 2) ?_
  refine va_sld hx hb hX hbl hbA h.2.2 (i := (nI (i + 2))) (vp_in_nI (by omega) (by omega)) dL_law_912 ?_
  refine lv_cgi (y := xs (i + 2)) (nn_at xs (by omega)) ?_
  have hp := (pmD px_11 : List.Perm (lW G ad md ou ng nw tn nl ne gn nb ns l1 l2 l3 tf l0 lf lt en ef et ep pr py ld ll lc bd bl sd sl ag z la tk tz lo wt tv D gc td tl fd st ca cs cb cd so bo rf of I F rw gd gl : va_W) _)
  refine k_i C h hp (r_runV C h hp 0 rfl rfl (As := [.int (xs (i + 1)), .int (xs (i + 2))]) (rest := []) (h_allow l G ad ng nw td tl fd st nb ns bd bl sd sl so bo ag rf wt (xs (i + 1)) (xs (i + 2))) (cwV 2 C.1.1.2.2.2.2 gL_law_X9_allow rfl rfl rfl (by decide +kernel) ⟨Nat.le_of_ble_eq_true rfl, Nat.le_of_ble_eq_true rfl⟩) rfl hl.1 (Nat.le_of_ble_eq_true rfl) dL_law_913 ⟨by show _ ≤ 601024; omega, by show _ ≤ 7293033; omega⟩) (fun ra ua H locs hwa h => ?_)
  have h : gS G A s (lW G ad md ou ng nw tn nl ne gn nb ns l1 l2 l3 tf l0 lf lt en ef et ep pr py ld ll lc bd bl sd sl ag z la tk tz lo wt tv D gc (if hAok (xs (i + 1)) (xs (i + 2)) = true then (xs (i + 1)) else td) (if hAok (xs (i + 1)) (xs (i + 2)) = true then (xs (i + 2)) else tl) fd (if hAok (xs (i + 1)) (xs (i + 2)) = true then 0 else st) ca cs cb cd so bo rf of I F rw gd gl) H locs := gS.perm h (List.Perm.symm (pmD px_11))
  refine lv_aload_n hx hb dL_law_916 rfl (lv_at hl 2 rfl) ?_
  refine lv_aload_n hx hb dL_law_917 rfl (lv_at hl 0 rfl) ?_
  refine lv_iload hx hb dL_law_918 (lv_at hl 4 rfl) ?_
  refine lv_iconst (v := 1) hx hb dL_law_920 (by decide) ?_
  refine lv_iadd hx hb dL_law_921 ?_
  refine lv_cgi (y := nI (i + 1)) (ni_k i 1) ?_
  refine va_sld hx hb hX hbl hbA h.2.2 (i := (nI (i + 1))) (vp_in_nI (by omega) (by omega)) dL_law_922 ?_
  refine lv_cgi (y := xs (i + 1)) (nn_at xs (by omega)) ?_
  refine lv_aload_n hx hb dL_law_923 rfl (lv_at hl 0 rfl) ?_
  refine lv_iload hx hb dL_law_924 (lv_at hl 4 rfl) ?_
  refine lv_iconst (v := 2) hx hb dL_law_926 (by decide) ?_
  refine lv_iadd hx hb dL_law_927 ?_
  refine lv_cgi (y := nI (i + 2)) (ni_k i 2) ?_
  refine va_sld hx hb hX hbl hbA h.2.2 (i := (nI (i + 2))) (vp_in_nI (by omega) (by omega)) dL_law_928 ?_
  refine lv_cgi (y := xs (i + 2)) (nn_at xs (by omega)) ?_
  have hp := (pmD px_1 : List.Perm (lW G ad md ou ng nw tn nl ne gn nb ns l1 l2 l3 tf l0 lf lt en ef et ep pr py ld ll lc bd bl sd sl ag z la tk tz lo wt tv D gc (if hAok (xs (i + 1)) (xs (i + 2)) = true then (xs (i + 1)) else td) (if hAok (xs (i + 1)) (xs (i + 2)) = true then (xs (i + 2)) else tl) fd (if hAok (xs (i + 1)) (xs (i + 2)) = true then 0 else st) ca cs cb cd so bo rf of I F rw gd gl : va_W) _)
  refine k_i C h hp (r_runV C h hp 0 rfl rfl (As := [.int (xs (i + 1)), .int (xs (i + 2))]) (rest := [.int ra]) (m_allow l G md I F rw gd gl (xs (i + 1)) (xs (i + 2))) (cwV 2 C.1.1.2.2.2.2 gL_law_X10_allow rfl rfl rfl (by decide +kernel) ⟨Nat.le_of_ble_eq_true rfl, Nat.le_of_ble_eq_true rfl⟩) rfl hl.1 (Nat.le_of_ble_eq_true rfl) dL_law_929 ⟨by show _ ≤ 601024; omega, by show _ ≤ 7293033; omega⟩) (fun rb ub H locs hwb h => ?_)
  have h : gS G A s (lW G ad md ou ng nw tn nl ne gn nb ns l1 l2 l3 tf l0 lf lt en ef et ep pr py ld ll lc bd bl sd sl ag z la tk tz lo wt tv D gc (if hAok (xs (i + 1)) (xs (i + 2)) = true then (xs (i + 1)) else td) (if hAok (xs (i + 1)) (xs (i + 2)) = true then (xs (i + 2)) else tl) fd (if hAok (xs (i + 1)) (xs (i + 2)) = true then 0 else st) ca cs cb cd so bo rf of ((mAllow I (xs (i + 1)) (xs (i + 2))).2) F rw gd gl) H locs := gS.perm h (List.Perm.symm (pmD px_1))
  have hq := la_allow (xs (i + 1)) (xs (i + 2)) hm
  rw [← hwa, ← hwb] at hq
  refine lv_icmp_eq (tgt := 1074) hx hb dL_law_932 (by decide) (fun c_932 => ?_) (fun c_932 => ?_)
  · exact kx (lW G ad md ou ng nw tn nl ne gn nb ns l1 l2 l3 tf l0 lf lt en ef et ep pr py ld ll lc bd bl sd sl ag z la tk tz lo wt tv D gc (if hAok (xs (i + 1)) (xs (i + 2)) = true then (xs (i + 1)) else td) (if hAok (xs (i + 1)) (xs (i + 2)) = true then (xs (i + 2)) else tl) fd (if hAok (xs (i + 1)) (xs (i + 2)) = true then 0 else st) ca cs cb cd so bo rf of ((mAllow I (xs (i + 1)) (xs (i + 2))).2) F rw gd gl) _ _ _ _ ls ⟨ng, nw, tn, nl, ne, gn, nb, ns, l1, l2, l3, tf, l0, lf, lt, en, ef, et, ep, pr, py, ld, ll, lc, bd, bl, sd, sl, ag, z, la, tk, tz, lo, wt, tv, D, gc, (if hAok (xs (i + 1)) (xs (i + 2)) = true then (xs (i + 1)) else td), (if hAok (xs (i + 1)) (xs (i + 2)) = true then (xs (i + 2)) else tl), fd, (if hAok (xs (i + 1)) (xs (i + 2)) = true then 0 else st), ca, cs, cb, cd, so, bo, rf, of, ((mAllow I (xs (i + 1)) (xs (i + 2))).2), F, rw, gd, gl, L, rfl, hq.2, by omega, by omega⟩ h (lv_sub hl [0, 1, 2, 3, 4] rfl)
  · exact absurd (hq.1) c_932

set_option maxHeartbeats 4000000 in
set_option maxRecDepth 100000 in
theorem lc_pairs0 {p : Program} {l : Launch} {e : Env} {s : State} {m : MethodId} {args : Array Value} {below : List Frame} {meth : Method} {c : Code} {cells slots : Nat} {Q : State → Prop} {G : gG} {A : Nat → Prop} (C : gC p m c cL_law 8 s args wsL_law RL G A) (ad md : Nat → Nat) (ou b Ls : Nat) (xs : Nat → Int32) (hX : va_X b Ls xs s s.heap) (hbl : b < s.heap.size) (hbA : ¬ A b) (hLs : Ls ≤ 3072) (i j : Nat) (hij : i = 6 * j) (hi6 : i + 6 ≤ Ls) (ng : Nat) (nw : Nat) (tn : Nat) (nl : Nat) (ne : Nat) (gn : Nat) (nb : Nat) (ns : Nat) (l1 : Nat) (l2 : Nat) (l3 : Nat) (tf : Nat → Int32) (l0 : Nat → Int32) (lf : Nat → Int32) (lt : Nat → Int32) (en : Nat → Int32) (ef : Nat → Int32) (et : Nat → Int32) (ep : Nat → Int32) (pr : Nat → Int32) (py : Nat → Int32) (ld : Nat → Int32) (ll : Nat → Int32) (lc : Nat → Int32) (bd : Nat → Int32) (bl : Nat → Int32) (sd : Nat → Int32) (sl : Nat → Int32) (ag : Nat → Int32) (z : RS) (la : Nat → Nat) (tk : Nat → Nat) (tz : Nat → Nat) (lo : Nat → Nat) (wt : Nat → Nat) (tv : Nat → Nat → Int32) (D : Nat → Nat → Int32) (gc : Int32) (td : Int32) (tl : Int32) (fd : Int32) (st : Int32) (ca : Int32) (cs : Int32) (cb : Int32) (cd : Int32) (so : Nat → Option Nat) (bo : Nat → Option Nat) (rf : Nat → Option Nat) (of : Nat → Int64) (I : Nat → Int32) (F : Nat → Nat → Int32) (rw : Nat) (gd : Int64) (gl : Int64) (L : Nat → Nat) (hm : hmR tn tf nl l0 lf lt tz tv ne en ef et ep ng D pr gn gc ld ll lc nw nb ns bd bl sd sl td tl fd st so ca cs cb cd I F L) (hcb : cells ≤ 200 + 10 * j + ltC gn) (hsb : slots ≤ 100000 + 300 * j + ltS gn) (est : st = 0) (kx : ∀ (W9 : va_W) (cells slots : Nat) (H : Heap) (locs : List Loc) (ls : Array Slot), lwI G ad md ou (j + 1) W9 cells slots → gS G A s W9 H locs → lv_has ls 8 [(0, .ref b), (1, .ref (ad 0)), (2, .ref (md 0)), (3, .ref ou), (4, .int (nI i))] → W p l e room_1 s m args below meth c H locs cells slots Q (F0 m 1074 ls [])) (H : Heap) (locs : List Loc) (ls : Array Slot) (h : gS G A s (lW G ad md ou ng nw tn nl ne gn nb ns l1 l2 l3 tf l0 lf lt en ef et ep pr py ld ll lc bd bl sd sl ag z la tk tz lo wt tv D gc td tl fd 0 ca cs cb cd so bo rf of I F rw gd gl) H locs) (hl : lv_has ls 8 [(0, .ref b), (1, .ref (ad 0)), (2, .ref (md 0)), (3, .ref ou), (4, .int (nI i))]) : W p l e room_1 s m args below meth c H locs cells slots Q (F0 m 937 ls []) := by
  have hx := C.1.1.1
  have hb := C.1.1.2.1
  have hlt := lt_b gn
  have hm9 := hm
  obtain ⟨hT, hL, hE, hG, hP, hD, hN, hB, hC⟩ := hm9
  subst est
  obtain ⟨h41, h43, h42, e41, e43, e42⟩ := hB.2.2.2.2.1
  refine lv_aload_n hx hb dL_law_937 rfl (lv_at hl 1 rfl) ?_
  have hp := (pmD px_11 : List.Perm (lW G ad md ou ng nw tn nl ne gn nb ns l1 l2 l3 tf l0 lf lt en ef et ep pr py ld ll lc bd bl sd sl ag z la tk tz lo wt tv D gc td tl fd 0 ca cs cb cd so bo rf of I F rw gd gl : va_W) _)
  refine k_i C h hp (r_runV C h hp 0 rfl rfl (As := []) (rest := []) (h_pairs0 l G ad ng nw td tl fd nb ns bd bl sd sl so bo ag rf wt hB.1.1 hB.1.2.1) (cwV 0 C.1.1.2.2.2.2 gL_law_X9_pairs rfl rfl rfl (by decide +kernel) ⟨Nat.le_of_ble_eq_true rfl, Nat.le_of_ble_eq_true rfl⟩) rfl hl.1 (Nat.le_of_ble_eq_true rfl) dL_law_938 ⟨by show _ ≤ 601024; omega, by show _ ≤ 7293033; omega⟩) (fun ra ua H locs hwa h => ?_)
  have h : gS G A s (lW G ad md ou ng nw tn nl ne gn nb ns l1 l2 l3 tf l0 lf lt en ef et ep pr py ld ll lc bd bl sd sl ua.1 z la tk tz lo ua.2.2.2.2 tv D gc td tl (nI (kX (hAg td tl bd bl sd sl) 0 nb ns (fun _ => false))) 1 ca cs cb cd ua.2.1 ua.2.2.1 ua.2.2.2.1 of I F rw gd gl) H locs := gS.perm h (List.Perm.symm (pmD px_11))
  refine lv_aload_n hx hb dL_law_941 rfl (lv_at hl 2 rfl) ?_
  have hp := (pmD px_1 : List.Perm (lW G ad md ou ng nw tn nl ne gn nb ns l1 l2 l3 tf l0 lf lt en ef et ep pr py ld ll lc bd bl sd sl ua.1 z la tk tz lo ua.2.2.2.2 tv D gc td tl (nI (kX (hAg td tl bd bl sd sl) 0 nb ns (fun _ => false))) 1 ca cs cb cd ua.2.1 ua.2.2.1 ua.2.2.2.1 of I F rw gd gl : va_W) _)
  refine k_i C h hp (r_runV C h hp 0 rfl rfl (As := []) (rest := [.int ra]) (m_pairsF l G md I F rw gd gl h42 nb ns hB.1.2.2.1 hB.1.2.2.2 hB.1.1 hB.1.2.1 h41 h43 e41 e43 e42) (cwV 0 C.1.1.2.2.2.2 gL_law_X10_pairs rfl rfl rfl (by decide +kernel) ⟨Nat.le_of_ble_eq_true rfl, Nat.le_of_ble_eq_true rfl⟩) rfl hl.1 (Nat.le_of_ble_eq_true rfl) dL_law_942 ⟨by show _ ≤ 601024; omega, by show _ ≤ 7293033; omega⟩) (fun rb ub H locs hwb h => ?_)
  have h : gS G A s (lW G ad md ou ng nw tn nl ne gn nb ns l1 l2 l3 tf l0 lf lt en ef et ep pr py ld ll lc bd bl sd sl ua.1 z la tk tz lo ua.2.2.2.2 tv D gc td tl (nI (kX (hAg td tl bd bl sd sl) 0 nb ns (fun _ => false))) 1 ca cs cb cd ua.2.1 ua.2.2.1 ua.2.2.2.1 of (upd I 0 0) (va_up (va_up (va_up F 42 (bF (flg false 20 h42))) 41 (oF ub.1)) 43 (bF ub.2)) rw gd gl) H locs := gS.perm h (List.Perm.symm (pmD px_1))
  have hq := la_pairs h42 ub.2 ub.1 (la_settle ua.2.1 hwa.2 hm).2
  have hq1 : ra = rb := by rw [hwa.1, hwb]; exact hq.1
  refine lv_icmp_eq (tgt := 1074) hx hb dL_law_945 (by decide) (fun c_945 => ?_) (fun c_945 => ?_)
  · exact kx (lW G ad md ou ng nw tn nl ne gn nb ns l1 l2 l3 tf l0 lf lt en ef et ep pr py ld ll lc bd bl sd sl ua.1 z la tk tz lo ua.2.2.2.2 tv D gc td tl (nI (kX (hAg td tl bd bl sd sl) 0 nb ns (fun _ => false))) 1 ca cs cb cd ua.2.1 ua.2.2.1 ua.2.2.2.1 of (upd I 0 0) (va_up (va_up (va_up F 42 (bF (flg false 20 h42))) 41 (oF ub.1)) 43 (bF ub.2)) rw gd gl) _ _ _ _ ls ⟨ng, nw, tn, nl, ne, gn, nb, ns, l1, l2, l3, tf, l0, lf, lt, en, ef, et, ep, pr, py, ld, ll, lc, bd, bl, sd, sl, ua.1, z, la, tk, tz, lo, ua.2.2.2.2, tv, D, gc, td, tl, (nI (kX (hAg td tl bd bl sd sl) 0 nb ns (fun _ => false))), 1, ca, cs, cb, cd, ua.2.1, ua.2.2.1, ua.2.2.2.1, of, (upd I 0 0), (va_up (va_up (va_up F 42 (bF (flg false 20 h42))) 41 (oF ub.1)) 43 (bF ub.2)), rw, gd, gl, L, rfl, hq.2, by omega, by omega⟩ h (lv_sub hl [0, 1, 2, 3, 4] rfl)
  · exact absurd (hq1) c_945

set_option maxHeartbeats 4000000 in
set_option maxRecDepth 100000 in
theorem lc_pairs1 {p : Program} {l : Launch} {e : Env} {s : State} {m : MethodId} {args : Array Value} {below : List Frame} {meth : Method} {c : Code} {cells slots : Nat} {Q : State → Prop} {G : gG} {A : Nat → Prop} (C : gC p m c cL_law 8 s args wsL_law RL G A) (ad md : Nat → Nat) (ou b Ls : Nat) (xs : Nat → Int32) (hX : va_X b Ls xs s s.heap) (hbl : b < s.heap.size) (hbA : ¬ A b) (hLs : Ls ≤ 3072) (i j : Nat) (hij : i = 6 * j) (hi6 : i + 6 ≤ Ls) (ng : Nat) (nw : Nat) (tn : Nat) (nl : Nat) (ne : Nat) (gn : Nat) (nb : Nat) (ns : Nat) (l1 : Nat) (l2 : Nat) (l3 : Nat) (tf : Nat → Int32) (l0 : Nat → Int32) (lf : Nat → Int32) (lt : Nat → Int32) (en : Nat → Int32) (ef : Nat → Int32) (et : Nat → Int32) (ep : Nat → Int32) (pr : Nat → Int32) (py : Nat → Int32) (ld : Nat → Int32) (ll : Nat → Int32) (lc : Nat → Int32) (bd : Nat → Int32) (bl : Nat → Int32) (sd : Nat → Int32) (sl : Nat → Int32) (ag : Nat → Int32) (z : RS) (la : Nat → Nat) (tk : Nat → Nat) (tz : Nat → Nat) (lo : Nat → Nat) (wt : Nat → Nat) (tv : Nat → Nat → Int32) (D : Nat → Nat → Int32) (gc : Int32) (td : Int32) (tl : Int32) (fd : Int32) (st : Int32) (ca : Int32) (cs : Int32) (cb : Int32) (cd : Int32) (so : Nat → Option Nat) (bo : Nat → Option Nat) (rf : Nat → Option Nat) (of : Nat → Int64) (I : Nat → Int32) (F : Nat → Nat → Int32) (rw : Nat) (gd : Int64) (gl : Int64) (L : Nat → Nat) (hm : hmR tn tf nl l0 lf lt tz tv ne en ef et ep ng D pr gn gc ld ll lc nw nb ns bd bl sd sl td tl fd st so ca cs cb cd I F L) (hcb : cells ≤ 200 + 10 * j + ltC gn) (hsb : slots ≤ 100000 + 300 * j + ltS gn) (est : st = 1) (kx : ∀ (W9 : va_W) (cells slots : Nat) (H : Heap) (locs : List Loc) (ls : Array Slot), lwI G ad md ou (j + 1) W9 cells slots → gS G A s W9 H locs → lv_has ls 8 [(0, .ref b), (1, .ref (ad 0)), (2, .ref (md 0)), (3, .ref ou), (4, .int (nI i))] → W p l e room_1 s m args below meth c H locs cells slots Q (F0 m 1074 ls [])) (H : Heap) (locs : List Loc) (ls : Array Slot) (h : gS G A s (lW G ad md ou ng nw tn nl ne gn nb ns l1 l2 l3 tf l0 lf lt en ef et ep pr py ld ll lc bd bl sd sl ag z la tk tz lo wt tv D gc td tl fd 1 ca cs cb cd so bo rf of I F rw gd gl) H locs) (hl : lv_has ls 8 [(0, .ref b), (1, .ref (ad 0)), (2, .ref (md 0)), (3, .ref ou), (4, .int (nI i))]) : W p l e room_1 s m args below meth c H locs cells slots Q (F0 m 937 ls []) := by
  have hx := C.1.1.1
  have hb := C.1.1.2.1
  have hlt := lt_b gn
  have hm9 := hm
  obtain ⟨hT, hL, hE, hG, hP, hD, hN, hB, hC⟩ := hm9
  subst est
  obtain ⟨h41, h43, h42, e41, e43, e42⟩ := hB.2.2.2.2.1
  have hfd9 := (hB.2.2.2.2.2.resolve_left (by decide)).2.1
  refine lv_aload_n hx hb dL_law_937 rfl (lv_at hl 1 rfl) ?_
  have hp := (pmD px_11 : List.Perm (lW G ad md ou ng nw tn nl ne gn nb ns l1 l2 l3 tf l0 lf lt en ef et ep pr py ld ll lc bd bl sd sl ag z la tk tz lo wt tv D gc td tl fd 1 ca cs cb cd so bo rf of I F rw gd gl : va_W) _)
  refine k_i C h hp (r_runV C h hp 0 rfl rfl (As := []) (rest := []) (h_pairs1 l G ad ng nw td tl fd nb ns bd bl sd sl so bo ag rf wt) (cwV 0 C.1.1.2.2.2.2 gL_law_X9_pairs rfl rfl rfl (by decide +kernel) ⟨Nat.le_of_ble_eq_true rfl, Nat.le_of_ble_eq_true rfl⟩) rfl hl.1 (Nat.le_of_ble_eq_true rfl) dL_law_938 ⟨by show _ ≤ 601024; omega, by show _ ≤ 7293033; omega⟩) (fun ra ua H locs hwa h => ?_)
  have h : gS G A s (lW G ad md ou ng nw tn nl ne gn nb ns l1 l2 l3 tf l0 lf lt en ef et ep pr py ld ll lc bd bl sd sl ag z la tk tz lo wt tv D gc td tl fd 1 ca cs cb cd so bo rf of I F rw gd gl) H locs := gS.perm h (List.Perm.symm (pmD px_11))
  refine lv_aload_n hx hb dL_law_941 rfl (lv_at hl 2 rfl) ?_
  have hp := (pmD px_1 : List.Perm (lW G ad md ou ng nw tn nl ne gn nb ns l1 l2 l3 tf l0 lf lt en ef et ep pr py ld ll lc bd bl sd sl ag z la tk tz lo wt tv D gc td tl fd 1 ca cs cb cd so bo rf of I F rw gd gl : va_W) _)
  refine k_i C h hp (r_runV C h hp 0 rfl rfl (As := []) (rest := [.int ra]) (m_pairsF l G md I F rw gd gl h42 nb ns hB.1.2.2.1 hB.1.2.2.2 hB.1.1 hB.1.2.1 h41 h43 e41 e43 e42) (cwV 0 C.1.1.2.2.2.2 gL_law_X10_pairs rfl rfl rfl (by decide +kernel) ⟨Nat.le_of_ble_eq_true rfl, Nat.le_of_ble_eq_true rfl⟩) rfl hl.1 (Nat.le_of_ble_eq_true rfl) dL_law_942 ⟨by show _ ≤ 601024; omega, by show _ ≤ 7293033; omega⟩) (fun rb ub H locs hwb h => ?_)
  have h : gS G A s (lW G ad md ou ng nw tn nl ne gn nb ns l1 l2 l3 tf l0 lf lt en ef et ep pr py ld ll lc bd bl sd sl ag z la tk tz lo wt tv D gc td tl fd 1 ca cs cb cd so bo rf of (upd I 0 0) (va_up (va_up (va_up F 42 (bF (flg false 20 h42))) 41 (oF ub.1)) 43 (bF ub.2)) rw gd gl) H locs := gS.perm h (List.Perm.symm (pmD px_1))
  have hq := la_pairs h42 ub.2 ub.1 hm
  have hq1 : ra = rb := by rw [hwa, hwb, hfd9]; exact hq.1
  refine lv_icmp_eq (tgt := 1074) hx hb dL_law_945 (by decide) (fun c_945 => ?_) (fun c_945 => ?_)
  · exact kx (lW G ad md ou ng nw tn nl ne gn nb ns l1 l2 l3 tf l0 lf lt en ef et ep pr py ld ll lc bd bl sd sl ag z la tk tz lo wt tv D gc td tl fd 1 ca cs cb cd so bo rf of (upd I 0 0) (va_up (va_up (va_up F 42 (bF (flg false 20 h42))) 41 (oF ub.1)) 43 (bF ub.2)) rw gd gl) _ _ _ _ ls ⟨ng, nw, tn, nl, ne, gn, nb, ns, l1, l2, l3, tf, l0, lf, lt, en, ef, et, ep, pr, py, ld, ll, lc, bd, bl, sd, sl, ag, z, la, tk, tz, lo, wt, tv, D, gc, td, tl, fd, 1, ca, cs, cb, cd, so, bo, rf, of, (upd I 0 0), (va_up (va_up (va_up F 42 (bF (flg false 20 h42))) 41 (oF ub.1)) 43 (bF ub.2)), rw, gd, gl, L, rfl, hq.2, by omega, by omega⟩ h (lv_sub hl [0, 1, 2, 3, 4] rfl)
  · exact absurd (hq1) c_945

set_option maxHeartbeats 4000000 in
set_option maxRecDepth 100000 in
theorem lc_pairN {p : Program} {l : Launch} {e : Env} {s : State} {m : MethodId} {args : Array Value} {below : List Frame} {meth : Method} {c : Code} {cells slots : Nat} {Q : State → Prop} {G : gG} {A : Nat → Prop} (C : gC p m c cL_law 8 s args wsL_law RL G A) (ad md : Nat → Nat) (ou b Ls : Nat) (xs : Nat → Int32) (hX : va_X b Ls xs s s.heap) (hbl : b < s.heap.size) (hbA : ¬ A b) (hLs : Ls ≤ 3072) (i j : Nat) (hij : i = 6 * j) (hi6 : i + 6 ≤ Ls) (ng : Nat) (nw : Nat) (tn : Nat) (nl : Nat) (ne : Nat) (gn : Nat) (nb : Nat) (ns : Nat) (l1 : Nat) (l2 : Nat) (l3 : Nat) (tf : Nat → Int32) (l0 : Nat → Int32) (lf : Nat → Int32) (lt : Nat → Int32) (en : Nat → Int32) (ef : Nat → Int32) (et : Nat → Int32) (ep : Nat → Int32) (pr : Nat → Int32) (py : Nat → Int32) (ld : Nat → Int32) (ll : Nat → Int32) (lc : Nat → Int32) (bd : Nat → Int32) (bl : Nat → Int32) (sd : Nat → Int32) (sl : Nat → Int32) (ag : Nat → Int32) (z : RS) (la : Nat → Nat) (tk : Nat → Nat) (tz : Nat → Nat) (lo : Nat → Nat) (wt : Nat → Nat) (tv : Nat → Nat → Int32) (D : Nat → Nat → Int32) (gc : Int32) (td : Int32) (tl : Int32) (fd : Int32) (st : Int32) (ca : Int32) (cs : Int32) (cb : Int32) (cd : Int32) (so : Nat → Option Nat) (bo : Nat → Option Nat) (rf : Nat → Option Nat) (of : Nat → Int64) (I : Nat → Int32) (F : Nat → Nat → Int32) (rw : Nat) (gd : Int64) (gl : Int64) (L : Nat → Nat) (hm : hmR tn tf nl l0 lf lt tz tv ne en ef et ep ng D pr gn gc ld ll lc nw nb ns bd bl sd sl td tl fd st so ca cs cb cd I F L) (hcb : cells ≤ 200 + 10 * j + ltC gn) (hsb : slots ≤ 100000 + 300 * j + ltS gn) (hok : mIn (xs (i + 1)) 0 (nI nb - 1) = 0) (kx : ∀ (W9 : va_W) (cells slots : Nat) (H : Heap) (locs : List Loc) (ls : Array Slot), lwI G ad md ou (j + 1) W9 cells slots → gS G A s W9 H locs → lv_has ls 8 [(0, .ref b), (1, .ref (ad 0)), (2, .ref (md 0)), (3, .ref ou), (4, .int (nI i))] → W p l e room_1 s m args below meth c H locs cells slots Q (F0 m 1074 ls [])) (H : Heap) (locs : List Loc) (ls : Array Slot) (h : gS G A s (lW G ad md ou ng nw tn nl ne gn nb ns l1 l2 l3 tf l0 lf lt en ef et ep pr py ld ll lc bd bl sd sl ag z la tk tz lo wt tv D gc td tl fd st ca cs cb cd so bo rf of I F rw gd gl) H locs) (hl : lv_has ls 8 [(0, .ref b), (1, .ref (ad 0)), (2, .ref (md 0)), (3, .ref ou), (4, .int (nI i))]) : W p l e room_1 s m args below meth c H locs cells slots Q (F0 m 950 ls []) := by
  have hx := C.1.1.1
  have hb := C.1.1.2.1
  have hlt := lt_b gn
  have hm9 := hm
  obtain ⟨hT, hL, hE, hG, hP, hD, hN, hB, hC⟩ := hm9
  obtain ⟨h41, h43, h42, e41, e43, e42⟩ := hB.2.2.2.2.1
  refine lv_aload_n hx hb dL_law_950 rfl (lv_at hl 1 rfl) ?_
  refine lv_aload_n hx hb dL_law_951 rfl (lv_at hl 0 rfl) ?_
  refine lv_iload hx hb dL_law_952 (lv_at hl 4 rfl) ?_
  refine lv_iconst (v := 1) hx hb dL_law_954 (by decide) ?_
  refine lv_iadd hx hb dL_law_955 ?_
  refine lv_cgi (y := nI (i + 1)) (ni_k i 1) ?_
  refine va_sld hx hb hX hbl hbA h.2.2 (i := (nI (i + 1))) (vp_in_nI (by omega) (by omega)) dL_law_956 ?_
  refine lv_cgi (y := xs (i + 1)) (nn_at xs (by omega)) ?_
  have hp := (pmD px_11 : List.Perm (lW G ad md ou ng nw tn nl ne gn nb ns l1 l2 l3 tf l0 lf lt en ef et ep pr py ld ll lc bd bl sd sl ag z la tk tz lo wt tv D gc td tl fd st ca cs cb cd so bo rf of I F rw gd gl : va_W) _)
  refine k_i C h hp (r_runV C h hp 0 rfl rfl (As := [.int (xs (i + 1))]) (rest := []) (h_pairN l G ad ng nw td tl fd st nb ns bd bl sd sl so bo ag rf wt (xs (i + 1)) hok) (cwV 1 C.1.1.2.2.2.2 gL_law_X9_pair rfl rfl rfl (by decide +kernel) ⟨Nat.le_of_ble_eq_true rfl, Nat.le_of_ble_eq_true rfl⟩) rfl hl.1 (Nat.le_of_ble_eq_true rfl) dL_law_957 ⟨by show _ ≤ 601024; omega, by show _ ≤ 7293033; omega⟩) (fun ra ua H locs hwa h => ?_)
  have h : gS G A s (lW G ad md ou ng nw tn nl ne gn nb ns l1 l2 l3 tf l0 lf lt en ef et ep pr py ld ll lc bd bl sd sl ag z la tk tz lo wt tv D gc td tl fd st ca cs cb cd so bo rf of I F rw gd gl) H locs := gS.perm h (List.Perm.symm (pmD px_11))
  refine lv_aload_n hx hb dL_law_960 rfl (lv_at hl 2 rfl) ?_
  refine lv_aload_n hx hb dL_law_961 rfl (lv_at hl 0 rfl) ?_
  refine lv_iload hx hb dL_law_962 (lv_at hl 4 rfl) ?_
  refine lv_iconst (v := 1) hx hb dL_law_964 (by decide) ?_
  refine lv_iadd hx hb dL_law_965 ?_
  refine lv_cgi (y := nI (i + 1)) (ni_k i 1) ?_
  refine va_sld hx hb hX hbl hbA h.2.2 (i := (nI (i + 1))) (vp_in_nI (by omega) (by omega)) dL_law_966 ?_
  refine lv_cgi (y := xs (i + 1)) (nn_at xs (by omega)) ?_
  have hp := (pmD px_1 : List.Perm (lW G ad md ou ng nw tn nl ne gn nb ns l1 l2 l3 tf l0 lf lt en ef et ep pr py ld ll lc bd bl sd sl ag z la tk tz lo wt tv D gc td tl fd st ca cs cb cd so bo rf of I F rw gd gl : va_W) _)
  refine k_i C h hp (r_runV C h hp 0 rfl rfl (As := [.int (xs (i + 1))]) (rest := [.int ra]) (m_pairNF l G md I F rw gd gl h42 nb ns hB.1.2.2.1 hB.1.2.2.2 hB.1.1 hB.1.2.1 h41 h43 e41 e43 e42 (xs (i + 1)) hok) (cwV 1 C.1.1.2.2.2.2 gL_law_X10_pair rfl rfl rfl (by decide +kernel) ⟨Nat.le_of_ble_eq_true rfl, Nat.le_of_ble_eq_true rfl⟩) rfl hl.1 (Nat.le_of_ble_eq_true rfl) dL_law_967 ⟨by show _ ≤ 601024; omega, by show _ ≤ 7293033; omega⟩) (fun rb ub H locs hwb h => ?_)
  have h : gS G A s (lW G ad md ou ng nw tn nl ne gn nb ns l1 l2 l3 tf l0 lf lt en ef et ep pr py ld ll lc bd bl sd sl ag z la tk tz lo wt tv D gc td tl fd st ca cs cb cd so bo rf of (upd I 0 0) F rw gd gl) H locs := gS.perm h (List.Perm.symm (pmD px_1))
  have hq : ra = rb := by rw [hwa, hwb]
  refine lv_icmp_eq (tgt := 1074) hx hb dL_law_970 (by decide) (fun c_970 => ?_) (fun c_970 => ?_)
  · exact kx (lW G ad md ou ng nw tn nl ne gn nb ns l1 l2 l3 tf l0 lf lt en ef et ep pr py ld ll lc bd bl sd sl ag z la tk tz lo wt tv D gc td tl fd st ca cs cb cd so bo rf of (upd I 0 0) F rw gd gl) _ _ _ _ ls ⟨ng, nw, tn, nl, ne, gn, nb, ns, l1, l2, l3, tf, l0, lf, lt, en, ef, et, ep, pr, py, ld, ll, lc, bd, bl, sd, sl, ag, z, la, tk, tz, lo, wt, tv, D, gc, td, tl, fd, st, ca, cs, cb, cd, so, bo, rf, of, (upd I 0 0), F, rw, gd, gl, L, rfl, (hm_jm (jm_0 I 0) hm), by omega, by omega⟩ h (lv_sub hl [0, 1, 2, 3, 4] rfl)
  · exact absurd (hq) c_970

set_option maxHeartbeats 4000000 in
set_option maxRecDepth 100000 in
theorem lc_pair0 {p : Program} {l : Launch} {e : Env} {s : State} {m : MethodId} {args : Array Value} {below : List Frame} {meth : Method} {c : Code} {cells slots : Nat} {Q : State → Prop} {G : gG} {A : Nat → Prop} (C : gC p m c cL_law 8 s args wsL_law RL G A) (ad md : Nat → Nat) (ou b Ls : Nat) (xs : Nat → Int32) (hX : va_X b Ls xs s s.heap) (hbl : b < s.heap.size) (hbA : ¬ A b) (hLs : Ls ≤ 3072) (i j : Nat) (hij : i = 6 * j) (hi6 : i + 6 ≤ Ls) (ng : Nat) (nw : Nat) (tn : Nat) (nl : Nat) (ne : Nat) (gn : Nat) (nb : Nat) (ns : Nat) (l1 : Nat) (l2 : Nat) (l3 : Nat) (tf : Nat → Int32) (l0 : Nat → Int32) (lf : Nat → Int32) (lt : Nat → Int32) (en : Nat → Int32) (ef : Nat → Int32) (et : Nat → Int32) (ep : Nat → Int32) (pr : Nat → Int32) (py : Nat → Int32) (ld : Nat → Int32) (ll : Nat → Int32) (lc : Nat → Int32) (bd : Nat → Int32) (bl : Nat → Int32) (sd : Nat → Int32) (sl : Nat → Int32) (ag : Nat → Int32) (z : RS) (la : Nat → Nat) (tk : Nat → Nat) (tz : Nat → Nat) (lo : Nat → Nat) (wt : Nat → Nat) (tv : Nat → Nat → Int32) (D : Nat → Nat → Int32) (gc : Int32) (td : Int32) (tl : Int32) (fd : Int32) (st : Int32) (ca : Int32) (cs : Int32) (cb : Int32) (cd : Int32) (so : Nat → Option Nat) (bo : Nat → Option Nat) (rf : Nat → Option Nat) (of : Nat → Int64) (I : Nat → Int32) (F : Nat → Nat → Int32) (rw : Nat) (gd : Int64) (gl : Int64) (L : Nat → Nat) (hm : hmR tn tf nl l0 lf lt tz tv ne en ef et ep ng D pr gn gc ld ll lc nw nb ns bd bl sd sl td tl fd st so ca cs cb cd I F L) (hcb : cells ≤ 200 + 10 * j + ltC gn) (hsb : slots ≤ 100000 + 300 * j + ltS gn) (k : Nat) (ek : (xs (i + 1)) = nI k) (hk : k < nb) (est : st = 0) (kx : ∀ (W9 : va_W) (cells slots : Nat) (H : Heap) (locs : List Loc) (ls : Array Slot), lwI G ad md ou (j + 1) W9 cells slots → gS G A s W9 H locs → lv_has ls 8 [(0, .ref b), (1, .ref (ad 0)), (2, .ref (md 0)), (3, .ref ou), (4, .int (nI i))] → W p l e room_1 s m args below meth c H locs cells slots Q (F0 m 1074 ls [])) (H : Heap) (locs : List Loc) (ls : Array Slot) (h : gS G A s (lW G ad md ou ng nw tn nl ne gn nb ns l1 l2 l3 tf l0 lf lt en ef et ep pr py ld ll lc bd bl sd sl ag z la tk tz lo wt tv D gc td tl fd 0 ca cs cb cd so bo rf of I F rw gd gl) H locs) (hl : lv_has ls 8 [(0, .ref b), (1, .ref (ad 0)), (2, .ref (md 0)), (3, .ref ou), (4, .int (nI i))]) : W p l e room_1 s m args below meth c H locs cells slots Q (F0 m 950 ls []) := by
  have hx := C.1.1.1
  have hb := C.1.1.2.1
  have hlt := lt_b gn
  have hm9 := hm
  obtain ⟨hT, hL, hE, hG, hP, hD, hN, hB, hC⟩ := hm9
  subst est
  obtain ⟨h41, h43, h42, e41, e43, e42⟩ := hB.2.2.2.2.1
  refine lv_aload_n hx hb dL_law_950 rfl (lv_at hl 1 rfl) ?_
  refine lv_aload_n hx hb dL_law_951 rfl (lv_at hl 0 rfl) ?_
  refine lv_iload hx hb dL_law_952 (lv_at hl 4 rfl) ?_
  refine lv_iconst (v := 1) hx hb dL_law_954 (by decide) ?_
  refine lv_iadd hx hb dL_law_955 ?_
  refine lv_cgi (y := nI (i + 1)) (ni_k i 1) ?_
  refine va_sld hx hb hX hbl hbA h.2.2 (i := (nI (i + 1))) (vp_in_nI (by omega) (by omega)) dL_law_956 ?_
  refine lv_cgi (y := xs (i + 1)) (nn_at xs (by omega)) ?_
  refine lv_cgi (y := (nI k)) (ek) ?_
  have hp := (pmD px_11 : List.Perm (lW G ad md ou ng nw tn nl ne gn nb ns l1 l2 l3 tf l0 lf lt en ef et ep pr py ld ll lc bd bl sd sl ag z la tk tz lo wt tv D gc td tl fd 0 ca cs cb cd so bo rf of I F rw gd gl : va_W) _)
  refine k_i C h hp (r_runV C h hp 0 rfl rfl (As := [.int (nI k)]) (rest := []) (h_pair0 l G ad ng nw td tl fd nb ns bd bl sd sl so bo ag rf wt hB.1.1 hB.1.2.1 k hk) (cwV 1 C.1.1.2.2.2.2 gL_law_X9_pair rfl rfl rfl (by decide +kernel) ⟨Nat.le_of_ble_eq_true rfl, Nat.le_of_ble_eq_true rfl⟩) rfl hl.1 (Nat.le_of_ble_eq_true rfl) dL_law_957 ⟨by show _ ≤ 601024; omega, by show _ ≤ 7293033; omega⟩) (fun ra ua H locs hwa h => ?_)
  have h : gS G A s (lW G ad md ou ng nw tn nl ne gn nb ns l1 l2 l3 tf l0 lf lt en ef et ep pr py ld ll lc bd bl sd sl ua.1 z la tk tz lo ua.2.2.2.2 tv D gc td tl (nI (kX (hAg td tl bd bl sd sl) 0 nb ns (fun _ => false))) 1 ca cs cb cd ua.2.1 ua.2.2.1 ua.2.2.2.1 of I F rw gd gl) H locs := gS.perm h (List.Perm.symm (pmD px_11))
  refine lv_aload_n hx hb dL_law_960 rfl (lv_at hl 2 rfl) ?_
  refine lv_aload_n hx hb dL_law_961 rfl (lv_at hl 0 rfl) ?_
  refine lv_iload hx hb dL_law_962 (lv_at hl 4 rfl) ?_
  refine lv_iconst (v := 1) hx hb dL_law_964 (by decide) ?_
  refine lv_iadd hx hb dL_law_965 ?_
  refine lv_cgi (y := nI (i + 1)) (ni_k i 1) ?_
  refine va_sld hx hb hX hbl hbA h.2.2 (i := (nI (i + 1))) (vp_in_nI (by omega) (by omega)) dL_law_966 ?_
  refine lv_cgi (y := xs (i + 1)) (nn_at xs (by omega)) ?_
  refine lv_cgi (y := (nI k)) (ek) ?_
  have hp := (pmD px_1 : List.Perm (lW G ad md ou ng nw tn nl ne gn nb ns l1 l2 l3 tf l0 lf lt en ef et ep pr py ld ll lc bd bl sd sl ua.1 z la tk tz lo ua.2.2.2.2 tv D gc td tl (nI (kX (hAg td tl bd bl sd sl) 0 nb ns (fun _ => false))) 1 ca cs cb cd ua.2.1 ua.2.2.1 ua.2.2.2.1 of I F rw gd gl : va_W) _)
  refine k_i C h hp (r_runV C h hp 0 rfl rfl (As := [.int (nI k)]) (rest := [.int ra]) (m_pairF l G md I F rw gd gl h42 nb ns hB.1.2.2.1 hB.1.2.2.2 hB.1.1 hB.1.2.1 h41 h43 e41 e43 e42 k hk) (cwV 1 C.1.1.2.2.2.2 gL_law_X10_pair rfl rfl rfl (by decide +kernel) ⟨Nat.le_of_ble_eq_true rfl, Nat.le_of_ble_eq_true rfl⟩) rfl hl.1 (Nat.le_of_ble_eq_true rfl) dL_law_967 ⟨by show _ ≤ 601024; omega, by show _ ≤ 7293033; omega⟩) (fun rb ub H locs hwb h => ?_)
  have h : gS G A s (lW G ad md ou ng nw tn nl ne gn nb ns l1 l2 l3 tf l0 lf lt en ef et ep pr py ld ll lc bd bl sd sl ua.1 z la tk tz lo ua.2.2.2.2 tv D gc td tl (nI (kX (hAg td tl bd bl sd sl) 0 nb ns (fun _ => false))) 1 ca cs cb cd ua.2.1 ua.2.2.1 ua.2.2.2.1 of (upd I 0 0) (va_up (va_up (va_up F 42 (bF ub.1)) 41 (oF ub.2.1)) 43 (bF ub.2.2)) rw gd gl) H locs := gS.perm h (List.Perm.symm (pmD px_1))
  have hq := la_pair h42 ub.1 ub.2.2 ub.2.1 k hk (la_settle ua.2.1 hwa.2 hm).2
  have hq1 : ra = rb := by rw [hwa.1, hwb]; exact hq.1
  refine lv_icmp_eq (tgt := 1074) hx hb dL_law_970 (by decide) (fun c_970 => ?_) (fun c_970 => ?_)
  · exact kx (lW G ad md ou ng nw tn nl ne gn nb ns l1 l2 l3 tf l0 lf lt en ef et ep pr py ld ll lc bd bl sd sl ua.1 z la tk tz lo ua.2.2.2.2 tv D gc td tl (nI (kX (hAg td tl bd bl sd sl) 0 nb ns (fun _ => false))) 1 ca cs cb cd ua.2.1 ua.2.2.1 ua.2.2.2.1 of (upd I 0 0) (va_up (va_up (va_up F 42 (bF ub.1)) 41 (oF ub.2.1)) 43 (bF ub.2.2)) rw gd gl) _ _ _ _ ls ⟨ng, nw, tn, nl, ne, gn, nb, ns, l1, l2, l3, tf, l0, lf, lt, en, ef, et, ep, pr, py, ld, ll, lc, bd, bl, sd, sl, ua.1, z, la, tk, tz, lo, ua.2.2.2.2, tv, D, gc, td, tl, (nI (kX (hAg td tl bd bl sd sl) 0 nb ns (fun _ => false))), 1, ca, cs, cb, cd, ua.2.1, ua.2.2.1, ua.2.2.2.1, of, (upd I 0 0), (va_up (va_up (va_up F 42 (bF ub.1)) 41 (oF ub.2.1)) 43 (bF ub.2.2)), rw, gd, gl, L, rfl, hq.2, by omega, by omega⟩ h (lv_sub hl [0, 1, 2, 3, 4] rfl)
  · exact absurd (hq1) c_970

set_option maxHeartbeats 4000000 in
set_option maxRecDepth 100000 in
theorem lc_pair1 {p : Program} {l : Launch} {e : Env} {s : State} {m : MethodId} {args : Array Value} {below : List Frame} {meth : Method} {c : Code} {cells slots : Nat} {Q : State → Prop} {G : gG} {A : Nat → Prop} (C : gC p m c cL_law 8 s args wsL_law RL G A) (ad md : Nat → Nat) (ou b Ls : Nat) (xs : Nat → Int32) (hX : va_X b Ls xs s s.heap) (hbl : b < s.heap.size) (hbA : ¬ A b) (hLs : Ls ≤ 3072) (i j : Nat) (hij : i = 6 * j) (hi6 : i + 6 ≤ Ls) (ng : Nat) (nw : Nat) (tn : Nat) (nl : Nat) (ne : Nat) (gn : Nat) (nb : Nat) (ns : Nat) (l1 : Nat) (l2 : Nat) (l3 : Nat) (tf : Nat → Int32) (l0 : Nat → Int32) (lf : Nat → Int32) (lt : Nat → Int32) (en : Nat → Int32) (ef : Nat → Int32) (et : Nat → Int32) (ep : Nat → Int32) (pr : Nat → Int32) (py : Nat → Int32) (ld : Nat → Int32) (ll : Nat → Int32) (lc : Nat → Int32) (bd : Nat → Int32) (bl : Nat → Int32) (sd : Nat → Int32) (sl : Nat → Int32) (ag : Nat → Int32) (z : RS) (la : Nat → Nat) (tk : Nat → Nat) (tz : Nat → Nat) (lo : Nat → Nat) (wt : Nat → Nat) (tv : Nat → Nat → Int32) (D : Nat → Nat → Int32) (gc : Int32) (td : Int32) (tl : Int32) (fd : Int32) (st : Int32) (ca : Int32) (cs : Int32) (cb : Int32) (cd : Int32) (so : Nat → Option Nat) (bo : Nat → Option Nat) (rf : Nat → Option Nat) (of : Nat → Int64) (I : Nat → Int32) (F : Nat → Nat → Int32) (rw : Nat) (gd : Int64) (gl : Int64) (L : Nat → Nat) (hm : hmR tn tf nl l0 lf lt tz tv ne en ef et ep ng D pr gn gc ld ll lc nw nb ns bd bl sd sl td tl fd st so ca cs cb cd I F L) (hcb : cells ≤ 200 + 10 * j + ltC gn) (hsb : slots ≤ 100000 + 300 * j + ltS gn) (k : Nat) (ek : (xs (i + 1)) = nI k) (hk : k < nb) (est : st = 1) (kx : ∀ (W9 : va_W) (cells slots : Nat) (H : Heap) (locs : List Loc) (ls : Array Slot), lwI G ad md ou (j + 1) W9 cells slots → gS G A s W9 H locs → lv_has ls 8 [(0, .ref b), (1, .ref (ad 0)), (2, .ref (md 0)), (3, .ref ou), (4, .int (nI i))] → W p l e room_1 s m args below meth c H locs cells slots Q (F0 m 1074 ls [])) (H : Heap) (locs : List Loc) (ls : Array Slot) (h : gS G A s (lW G ad md ou ng nw tn nl ne gn nb ns l1 l2 l3 tf l0 lf lt en ef et ep pr py ld ll lc bd bl sd sl ag z la tk tz lo wt tv D gc td tl fd 1 ca cs cb cd so bo rf of I F rw gd gl) H locs) (hl : lv_has ls 8 [(0, .ref b), (1, .ref (ad 0)), (2, .ref (md 0)), (3, .ref ou), (4, .int (nI i))]) : W p l e room_1 s m args below meth c H locs cells slots Q (F0 m 950 ls []) := by
  have hx := C.1.1.1
  have hb := C.1.1.2.1
  have hlt := lt_b gn
  have hm9 := hm
  obtain ⟨hT, hL, hE, hG, hP, hD, hN, hB, hC⟩ := hm9
  subst est
  obtain ⟨h41, h43, h42, e41, e43, e42⟩ := hB.2.2.2.2.1
  have hso9 := (hB.2.2.2.2.2.resolve_left (by decide)).2.2
  refine lv_aload_n hx hb dL_law_950 rfl (lv_at hl 1 rfl) ?_
  refine lv_aload_n hx hb dL_law_951 rfl (lv_at hl 0 rfl) ?_
  refine lv_iload hx hb dL_law_952 (lv_at hl 4 rfl) ?_
  refine lv_iconst (v := 1) hx hb dL_law_954 (by decide) ?_
  refine lv_iadd hx hb dL_law_955 ?_
  refine lv_cgi (y := nI (i + 1)) (ni_k i 1) ?_
  refine va_sld hx hb hX hbl hbA h.2.2 (i := (nI (i + 1))) (vp_in_nI (by omega) (by omega)) dL_law_956 ?_
  refine lv_cgi (y := xs (i + 1)) (nn_at xs (by omega)) ?_
  refine lv_cgi (y := (nI k)) (ek) ?_
  have hp := (pmD px_11 : List.Perm (lW G ad md ou ng nw tn nl ne gn nb ns l1 l2 l3 tf l0 lf lt en ef et ep pr py ld ll lc bd bl sd sl ag z la tk tz lo wt tv D gc td tl fd 1 ca cs cb cd so bo rf of I F rw gd gl : va_W) _)
  refine k_i C h hp (r_runV C h hp 0 rfl rfl (As := [.int (nI k)]) (rest := []) (h_pair1 l G ad ng nw td tl fd nb ns bd bl sd sl so bo ag rf wt hB.1.1 hB.1.2.1 k hk) (cwV 1 C.1.1.2.2.2.2 gL_law_X9_pair rfl rfl rfl (by decide +kernel) ⟨Nat.le_of_ble_eq_true rfl, Nat.le_of_ble_eq_true rfl⟩) rfl hl.1 (Nat.le_of_ble_eq_true rfl) dL_law_957 ⟨by show _ ≤ 601024; omega, by show _ ≤ 7293033; omega⟩) (fun ra ua H locs hwa h => ?_)
  have h : gS G A s (lW G ad md ou ng nw tn nl ne gn nb ns l1 l2 l3 tf l0 lf lt en ef et ep pr py ld ll lc bd bl sd sl ag z la tk tz lo wt tv D gc td tl fd 1 ca cs cb cd so bo rf of I F rw gd gl) H locs := gS.perm h (List.Perm.symm (pmD px_11))
  refine lv_aload_n hx hb dL_law_960 rfl (lv_at hl 2 rfl) ?_
  refine lv_aload_n hx hb dL_law_961 rfl (lv_at hl 0 rfl) ?_
  refine lv_iload hx hb dL_law_962 (lv_at hl 4 rfl) ?_
  refine lv_iconst (v := 1) hx hb dL_law_964 (by decide) ?_
  refine lv_iadd hx hb dL_law_965 ?_
  refine lv_cgi (y := nI (i + 1)) (ni_k i 1) ?_
  refine va_sld hx hb hX hbl hbA h.2.2 (i := (nI (i + 1))) (vp_in_nI (by omega) (by omega)) dL_law_966 ?_
  refine lv_cgi (y := xs (i + 1)) (nn_at xs (by omega)) ?_
  refine lv_cgi (y := (nI k)) (ek) ?_
  have hp := (pmD px_1 : List.Perm (lW G ad md ou ng nw tn nl ne gn nb ns l1 l2 l3 tf l0 lf lt en ef et ep pr py ld ll lc bd bl sd sl ag z la tk tz lo wt tv D gc td tl fd 1 ca cs cb cd so bo rf of I F rw gd gl : va_W) _)
  refine k_i C h hp (r_runV C h hp 0 rfl rfl (As := [.int (nI k)]) (rest := [.int ra]) (m_pairF l G md I F rw gd gl h42 nb ns hB.1.2.2.1 hB.1.2.2.2 hB.1.1 hB.1.2.1 h41 h43 e41 e43 e42 k hk) (cwV 1 C.1.1.2.2.2.2 gL_law_X10_pair rfl rfl rfl (by decide +kernel) ⟨Nat.le_of_ble_eq_true rfl, Nat.le_of_ble_eq_true rfl⟩) rfl hl.1 (Nat.le_of_ble_eq_true rfl) dL_law_967 ⟨by show _ ≤ 601024; omega, by show _ ≤ 7293033; omega⟩) (fun rb ub H locs hwb h => ?_)
  have h : gS G A s (lW G ad md ou ng nw tn nl ne gn nb ns l1 l2 l3 tf l0 lf lt en ef et ep pr py ld ll lc bd bl sd sl ag z la tk tz lo wt tv D gc td tl fd 1 ca cs cb cd so bo rf of (upd I 0 0) (va_up (va_up (va_up F 42 (bF ub.1)) 41 (oF ub.2.1)) 43 (bF ub.2.2)) rw gd gl) H locs := gS.perm h (List.Perm.symm (pmD px_1))
  have hq := la_pair h42 ub.1 ub.2.2 ub.2.1 k hk hm
  have hq1 : ra = rb := by rw [hwa, hwb, hso9 k hk]; exact hq.1
  refine lv_icmp_eq (tgt := 1074) hx hb dL_law_970 (by decide) (fun c_970 => ?_) (fun c_970 => ?_)
  · exact kx (lW G ad md ou ng nw tn nl ne gn nb ns l1 l2 l3 tf l0 lf lt en ef et ep pr py ld ll lc bd bl sd sl ag z la tk tz lo wt tv D gc td tl fd 1 ca cs cb cd so bo rf of (upd I 0 0) (va_up (va_up (va_up F 42 (bF ub.1)) 41 (oF ub.2.1)) 43 (bF ub.2.2)) rw gd gl) _ _ _ _ ls ⟨ng, nw, tn, nl, ne, gn, nb, ns, l1, l2, l3, tf, l0, lf, lt, en, ef, et, ep, pr, py, ld, ll, lc, bd, bl, sd, sl, ag, z, la, tk, tz, lo, wt, tv, D, gc, td, tl, fd, 1, ca, cs, cb, cd, so, bo, rf, of, (upd I 0 0), (va_up (va_up (va_up F 42 (bF ub.1)) 41 (oF ub.2.1)) 43 (bF ub.2.2)), rw, gd, gl, L, rfl, hq.2, by omega, by omega⟩ h (lv_sub hl [0, 1, 2, 3, 4] rfl)
  · exact absurd (hq1) c_970

set_option maxHeartbeats 4000000 in
set_option maxRecDepth 100000 in
theorem lc_near {p : Program} {l : Launch} {e : Env} {s : State} {m : MethodId} {args : Array Value} {below : List Frame} {meth : Method} {c : Code} {cells slots : Nat} {Q : State → Prop} {G : gG} {A : Nat → Prop} (C : gC p m c cL_law 8 s args wsL_law RL G A) (ad md : Nat → Nat) (ou b Ls : Nat) (xs : Nat → Int32) (hX : va_X b Ls xs s s.heap) (hbl : b < s.heap.size) (hbA : ¬ A b) (hLs : Ls ≤ 3072) (i j : Nat) (hij : i = 6 * j) (hi6 : i + 6 ≤ Ls) (ng : Nat) (nw : Nat) (tn : Nat) (nl : Nat) (ne : Nat) (gn : Nat) (nb : Nat) (ns : Nat) (l1 : Nat) (l2 : Nat) (l3 : Nat) (tf : Nat → Int32) (l0 : Nat → Int32) (lf : Nat → Int32) (lt : Nat → Int32) (en : Nat → Int32) (ef : Nat → Int32) (et : Nat → Int32) (ep : Nat → Int32) (pr : Nat → Int32) (py : Nat → Int32) (ld : Nat → Int32) (ll : Nat → Int32) (lc : Nat → Int32) (bd : Nat → Int32) (bl : Nat → Int32) (sd : Nat → Int32) (sl : Nat → Int32) (ag : Nat → Int32) (z : RS) (la : Nat → Nat) (tk : Nat → Nat) (tz : Nat → Nat) (lo : Nat → Nat) (wt : Nat → Nat) (tv : Nat → Nat → Int32) (D : Nat → Nat → Int32) (gc : Int32) (td : Int32) (tl : Int32) (fd : Int32) (st : Int32) (ca : Int32) (cs : Int32) (cb : Int32) (cd : Int32) (so : Nat → Option Nat) (bo : Nat → Option Nat) (rf : Nat → Option Nat) (of : Nat → Int64) (I : Nat → Int32) (F : Nat → Nat → Int32) (rw : Nat) (gd : Int64) (gl : Int64) (L : Nat → Nat) (hm : hmR tn tf nl l0 lf lt tz tv ne en ef et ep ng D pr gn gc ld ll lc nw nb ns bd bl sd sl td tl fd st so ca cs cb cd I F L) (hcb : cells ≤ 200 + 10 * j + ltC gn) (hsb : slots ≤ 100000 + 300 * j + ltS gn)  (kx : ∀ (W9 : va_W) (cells slots : Nat) (H : Heap) (locs : List Loc) (ls : Array Slot), lwI G ad md ou (j + 1) W9 cells slots → gS G A s W9 H locs → lv_has ls 8 [(0, .ref b), (1, .ref (ad 0)), (2, .ref (md 0)), (3, .ref ou), (4, .int (nI i))] → W p l e room_1 s m args below meth c H locs cells slots Q (F0 m 1074 ls [])) (H : Heap) (locs : List Loc) (ls : Array Slot) (h : gS G A s (lW G ad md ou ng nw tn nl ne gn nb ns l1 l2 l3 tf l0 lf lt en ef et ep pr py ld ll lc bd bl sd sl ag z la tk tz lo wt tv D gc td tl fd st ca cs cb cd so bo rf of I F rw gd gl) H locs) (hl : lv_has ls 8 [(0, .ref b), (1, .ref (ad 0)), (2, .ref (md 0)), (3, .ref ou), (4, .int (nI i))]) : W p l e room_1 s m args below meth c H locs cells slots Q (F0 m 975 ls []) := by
  have hx := C.1.1.1
  have hb := C.1.1.2.1
  have hlt := lt_b gn
  have hm9 := hm
  obtain ⟨hT, hL, hE, hG, hP, hD, hN, hB, hC⟩ := hm9
  refine lv_aload_n hx hb dL_law_975 rfl (lv_at hl 1 rfl) ?_
  refine lv_aload_n hx hb dL_law_976 rfl (lv_at hl 0 rfl) ?_
  refine lv_iload hx hb dL_law_977 (lv_at hl 4 rfl) ?_
  refine lv_iconst (v := 1) hx hb dL_law_979 (by decide) ?_
  refine lv_iadd hx hb dL_law_980 ?_
  refine lv_cgi (y := nI (i + 1)) (ni_k i 1) ?_
  refine va_sld hx hb hX hbl hbA h.2.2 (i := (nI (i + 1))) (vp_in_nI (by omega) (by omega)) dL_law_981 ?_
  refine lv_cgi (y := xs (i + 1)) (nn_at xs (by omega)) ?_
  have hp := (pmD px_12 : List.Perm (lW G ad md ou ng nw tn nl ne gn nb ns l1 l2 l3 tf l0 lf lt en ef et ep pr py ld ll lc bd bl sd sl ag z la tk tz lo wt tv D gc td tl fd st ca cs cb cd so bo rf of I F rw gd gl : va_W) _)
  refine k_i C h hp (r_runV C h hp 0 rfl rfl (As := [.int (xs (i + 1))]) (rest := []) (h_near l G ad ng nw ca cs cb cd (xs (i + 1))) (cwV 1 C.1.1.2.2.2.2 gL_law_X9_near rfl rfl rfl (by decide +kernel) ⟨Nat.le_of_ble_eq_true rfl, Nat.le_of_ble_eq_true rfl⟩) rfl hl.1 (Nat.le_of_ble_eq_true rfl) dL_law_982 ⟨by show _ ≤ 601024; omega, by show _ ≤ 7293033; omega⟩) (fun ra ua H locs hwa h => ?_)
  have h : gS G A s (lW G ad md ou ng nw tn nl ne gn nb ns l1 l2 l3 tf l0 lf lt en ef et ep pr py ld ll lc bd bl sd sl ag z la tk tz lo wt tv D gc td tl fd st (if mIn (xs (i + 1)) 0 100 = 0 then ca else (xs (i + 1))) cs cb cd so bo rf of I F rw gd gl) H locs := gS.perm h (List.Perm.symm (pmD px_12))
  refine lv_aload_n hx hb dL_law_985 rfl (lv_at hl 2 rfl) ?_
  refine lv_aload_n hx hb dL_law_986 rfl (lv_at hl 0 rfl) ?_
  refine lv_iload hx hb dL_law_987 (lv_at hl 4 rfl) ?_
  refine lv_iconst (v := 1) hx hb dL_law_989 (by decide) ?_
  refine lv_iadd hx hb dL_law_990 ?_
  refine lv_cgi (y := nI (i + 1)) (ni_k i 1) ?_
  refine va_sld hx hb hX hbl hbA h.2.2 (i := (nI (i + 1))) (vp_in_nI (by omega) (by omega)) dL_law_991 ?_
  refine lv_cgi (y := xs (i + 1)) (nn_at xs (by omega)) ?_
  have hp := (pmD px_1 : List.Perm (lW G ad md ou ng nw tn nl ne gn nb ns l1 l2 l3 tf l0 lf lt en ef et ep pr py ld ll lc bd bl sd sl ag z la tk tz lo wt tv D gc td tl fd st (if mIn (xs (i + 1)) 0 100 = 0 then ca else (xs (i + 1))) cs cb cd so bo rf of I F rw gd gl : va_W) _)
  refine k_i C h hp (r_runV C h hp 0 rfl rfl (As := [.int (xs (i + 1))]) (rest := [.int ra]) (m_near l G md I F rw gd gl (xs (i + 1))) (cwV 1 C.1.1.2.2.2.2 gL_law_X10_near rfl rfl rfl (by decide +kernel) ⟨Nat.le_of_ble_eq_true rfl, Nat.le_of_ble_eq_true rfl⟩) rfl hl.1 (Nat.le_of_ble_eq_true rfl) dL_law_992 ⟨by show _ ≤ 601024; omega, by show _ ≤ 7293033; omega⟩) (fun rb ub H locs hwb h => ?_)
  have h : gS G A s (lW G ad md ou ng nw tn nl ne gn nb ns l1 l2 l3 tf l0 lf lt en ef et ep pr py ld ll lc bd bl sd sl ag z la tk tz lo wt tv D gc td tl fd st (if mIn (xs (i + 1)) 0 100 = 0 then ca else (xs (i + 1))) cs cb cd so bo rf of ((mNear I (xs (i + 1))).2) F rw gd gl) H locs := gS.perm h (List.Perm.symm (pmD px_1))
  have hq := la_near (xs (i + 1)) hm
  rw [← hwa, ← hwb] at hq
  refine lv_icmp_eq (tgt := 1074) hx hb dL_law_995 (by decide) (fun c_995 => ?_) (fun c_995 => ?_)
  · exact kx (lW G ad md ou ng nw tn nl ne gn nb ns l1 l2 l3 tf l0 lf lt en ef et ep pr py ld ll lc bd bl sd sl ag z la tk tz lo wt tv D gc td tl fd st (if mIn (xs (i + 1)) 0 100 = 0 then ca else (xs (i + 1))) cs cb cd so bo rf of ((mNear I (xs (i + 1))).2) F rw gd gl) _ _ _ _ ls ⟨ng, nw, tn, nl, ne, gn, nb, ns, l1, l2, l3, tf, l0, lf, lt, en, ef, et, ep, pr, py, ld, ll, lc, bd, bl, sd, sl, ag, z, la, tk, tz, lo, wt, tv, D, gc, td, tl, fd, st, (if mIn (xs (i + 1)) 0 100 = 0 then ca else (xs (i + 1))), cs, cb, cd, so, bo, rf, of, ((mNear I (xs (i + 1))).2), F, rw, gd, gl, L, rfl, hq.2, by omega, by omega⟩ h (lv_sub hl [0, 1, 2, 3, 4] rfl)
  · exact absurd (hq.1) c_995

set_option maxHeartbeats 4000000 in
set_option maxRecDepth 100000 in
theorem lc_judge {p : Program} {l : Launch} {e : Env} {s : State} {m : MethodId} {args : Array Value} {below : List Frame} {meth : Method} {c : Code} {cells slots : Nat} {Q : State → Prop} {G : gG} {A : Nat → Prop} (C : gC p m c cL_law 8 s args wsL_law RL G A) (ad md : Nat → Nat) (ou b Ls : Nat) (xs : Nat → Int32) (hX : va_X b Ls xs s s.heap) (hbl : b < s.heap.size) (hbA : ¬ A b) (hLs : Ls ≤ 3072) (i j : Nat) (hij : i = 6 * j) (hi6 : i + 6 ≤ Ls) (ng : Nat) (nw : Nat) (tn : Nat) (nl : Nat) (ne : Nat) (gn : Nat) (nb : Nat) (ns : Nat) (l1 : Nat) (l2 : Nat) (l3 : Nat) (tf : Nat → Int32) (l0 : Nat → Int32) (lf : Nat → Int32) (lt : Nat → Int32) (en : Nat → Int32) (ef : Nat → Int32) (et : Nat → Int32) (ep : Nat → Int32) (pr : Nat → Int32) (py : Nat → Int32) (ld : Nat → Int32) (ll : Nat → Int32) (lc : Nat → Int32) (bd : Nat → Int32) (bl : Nat → Int32) (sd : Nat → Int32) (sl : Nat → Int32) (ag : Nat → Int32) (z : RS) (la : Nat → Nat) (tk : Nat → Nat) (tz : Nat → Nat) (lo : Nat → Nat) (wt : Nat → Nat) (tv : Nat → Nat → Int32) (D : Nat → Nat → Int32) (gc : Int32) (td : Int32) (tl : Int32) (fd : Int32) (st : Int32) (ca : Int32) (cs : Int32) (cb : Int32) (cd : Int32) (so : Nat → Option Nat) (bo : Nat → Option Nat) (rf : Nat → Option Nat) (of : Nat → Int64) (I : Nat → Int32) (F : Nat → Nat → Int32) (rw : Nat) (gd : Int64) (gl : Int64) (L : Nat → Nat) (hm : hmR tn tf nl l0 lf lt tz tv ne en ef et ep ng D pr gn gc ld ll lc nw nb ns bd bl sd sl td tl fd st so ca cs cb cd I F L) (hcb : cells ≤ 200 + 10 * j + ltC gn) (hsb : slots ≤ 100000 + 300 * j + ltS gn)  (kx : ∀ (W9 : va_W) (cells slots : Nat) (H : Heap) (locs : List Loc) (ls : Array Slot), lwI G ad md ou (j + 1) W9 cells slots → gS G A s W9 H locs → lv_has ls 8 [(0, .ref b), (1, .ref (ad 0)), (2, .ref (md 0)), (3, .ref ou), (4, .int (nI i))] → W p l e room_1 s m args below meth c H locs cells slots Q (F0 m 1074 ls [])) (H : Heap) (locs : List Loc) (ls : Array Slot) (h : gS G A s (lW G ad md ou ng nw tn nl ne gn nb ns l1 l2 l3 tf l0 lf lt en ef et ep pr py ld ll lc bd bl sd sl ag z la tk tz lo wt tv D gc td tl fd st ca cs cb cd so bo rf of I F rw gd gl) H locs) (hl : lv_has ls 8 [(0, .ref b), (1, .ref (ad 0)), (2, .ref (md 0)), (3, .ref ou), (4, .int (nI i))]) : W p l e room_1 s m args below meth c H locs cells slots Q (F0 m 1000 ls []) := by
  have hx := C.1.1.1
  have hb := C.1.1.2.1
  have hlt := lt_b gn
  have hm9 := hm
  obtain ⟨hT, hL, hE, hG, hP, hD, hN, hB, hC⟩ := hm9
  refine lv_aload_n hx hb dL_law_1000 rfl (lv_at hl 1 rfl) ?_
  refine lv_aload_n hx hb dL_law_1001 rfl (lv_at hl 0 rfl) ?_
  refine lv_iload hx hb dL_law_1002 (lv_at hl 4 rfl) ?_
  refine lv_iconst (v := 1) hx hb dL_law_1004 (by decide) ?_
  refine lv_iadd hx hb dL_law_1005 ?_
  refine lv_cgi (y := nI (i + 1)) (ni_k i 1) ?_
  refine va_sld hx hb hX hbl hbA h.2.2 (i := (nI (i + 1))) (vp_in_nI (by omega) (by omega)) dL_law_1006 ?_
  refine lv_cgi (y := xs (i + 1)) (nn_at xs (by omega)) ?_
  refine lv_aload_n hx hb dL_law_1007 rfl (lv_at hl 0 rfl) ?_
  refine lv_iload hx hb dL_law_1008 (lv_at hl 4 rfl) ?_
  refine lv_iconst (v := 2) hx hb dL_law_1010 (by decide) ?_
  refine lv_iadd hx hb dL_law_1011 ?_
  refine lv_cgi (y := nI (i + 2)) (ni_k i 2) ?_
  refine va_sld hx hb hX hbl hbA h.2.2 (i := (nI (i + 2))) (vp_in_nI (by omega) (by omega)) dL_law_1012 ?_
  refine lv_cgi (y := xs (i + 2)) (nn_at xs (by omega)) ?_
  refine lv_aload_n hx hb dL_law_1013 rfl (lv_at hl 0 rfl) ?_
  refine lv_iload hx hb dL_law_1014 (lv_at hl 4 rfl) ?_
  refine lv_iconst (v := 3) hx hb dL_law_1016 (by decide) ?_
  refine lv_iadd hx hb dL_law_1017 ?_
  refine lv_cgi (y := nI (i + 3)) (ni_k i 3) ?_
  refine va_sld hx hb hX hbl hbA h.2.2 (i := (nI (i + 3))) (vp_in_nI (by omega) (by omega)) dL_law_1018 ?_
  refine lv_cgi (y := xs (i + 3)) (nn_at xs (by omega)) ?_
  have hp := (pmD px_12 : List.Perm (lW G ad md ou ng nw tn nl ne gn nb ns l1 l2 l3 tf l0 lf lt en ef et ep pr py ld ll lc bd bl sd sl ag z la tk tz lo wt tv D gc td tl fd st ca cs cb cd so bo rf of I F rw gd gl : va_W) _)
  refine k_i C h hp (r_runV C h hp 0 rfl rfl (As := [.int (xs (i + 1)), .int (xs (i + 2)), .int (xs (i + 3))]) (rest := []) (h_judge l G ad ng nw ca cs cb cd (xs (i + 1)) (xs (i + 2)) (xs (i + 3))) (cwV 3 C.1.1.2.2.2.2 gL_law_X9_judge rfl rfl rfl (by decide +kernel) ⟨Nat.le_of_ble_eq_true rfl, Nat.le_of_ble_eq_true rfl⟩) rfl hl.1 (Nat.le_of_ble_eq_true rfl) dL_law_1019 ⟨by show _ ≤ 601024; omega, by show _ ≤ 7293033; omega⟩) (fun ra ua H locs hwa h => ?_)
  have h : gS G A s (lW G ad md ou ng nw tn nl ne gn nb ns l1 l2 l3 tf l0 lf lt en ef et ep pr py ld ll lc bd bl sd sl ag z la tk tz lo wt tv D gc td tl fd st ca (if hJok (xs (i + 1)) (xs (i + 2)) (xs (i + 3)) = true then (crSt (xs (i + 1)) (xs (i + 2)) (xs (i + 3)) ca) else cs) (if hJok (xs (i + 1)) (xs (i + 2)) (xs (i + 3)) = true then (if crN (xs (i + 1)) (xs (i + 3)) ca = 0 then cb + 1 else cb) else cb) (if hJok (xs (i + 1)) (xs (i + 2)) (xs (i + 3)) = true then (if crN (xs (i + 2)) (xs (i + 3)) ca = 0 then cd + 1 else cd) else cd) so bo rf of I F rw gd gl) H locs := gS.perm h (List.Perm.symm (pmD px_12))
  refine lv_aload_n hx hb dL_law_1022 rfl (lv_at hl 2 rfl) ?_
  refine lv_aload_n hx hb dL_law_1023 rfl (lv_at hl 0 rfl) ?_
  refine lv_iload hx hb dL_law_1024 (lv_at hl 4 rfl) ?_
  refine lv_iconst (v := 1) hx hb dL_law_1026 (by decide) ?_
  refine lv_iadd hx hb dL_law_1027 ?_
  refine lv_cgi (y := nI (i + 1)) (ni_k i 1) ?_
  refine va_sld hx hb hX hbl hbA h.2.2 (i := (nI (i + 1))) (vp_in_nI (by omega) (by omega)) dL_law_1028 ?_
  refine lv_cgi (y := xs (i + 1)) (nn_at xs (by omega)) ?_
  refine lv_aload_n hx hb dL_law_1029 rfl (lv_at hl 0 rfl) ?_
  refine lv_iload hx hb dL_law_1030 (lv_at hl 4 rfl) ?_
  refine lv_iconst (v := 2) hx hb dL_law_1032 (by decide) ?_
  refine lv_iadd hx hb dL_law_1033 ?_
  refine lv_cgi (y := nI (i + 2)) (ni_k i 2) ?_
  refine va_sld hx hb hX hbl hbA h.2.2 (i := (nI (i + 2))) (vp_in_nI (by omega) (by omega)) dL_law_1034 ?_
  refine lv_cgi (y := xs (i + 2)) (nn_at xs (by omega)) ?_
  refine lv_aload_n hx hb dL_law_1035 rfl (lv_at hl 0 rfl) ?_
  refine lv_iload hx hb dL_law_1036 (lv_at hl 4 rfl) ?_
  refine lv_iconst (v := 3) hx hb dL_law_1038 (by decide) ?_
  refine lv_iadd hx hb dL_law_1039 ?_
  refine lv_cgi (y := nI (i + 3)) (ni_k i 3) ?_
  refine va_sld hx hb hX hbl hbA h.2.2 (i := (nI (i + 3))) (vp_in_nI (by omega) (by omega)) dL_law_1040 ?_
  refine lv_cgi (y := xs (i + 3)) (nn_at xs (by omega)) ?_
  have hp := (pmD px_1 : List.Perm (lW G ad md ou ng nw tn nl ne gn nb ns l1 l2 l3 tf l0 lf lt en ef et ep pr py ld ll lc bd bl sd sl ag z la tk tz lo wt tv D gc td tl fd st ca (if hJok (xs (i + 1)) (xs (i + 2)) (xs (i + 3)) = true then (crSt (xs (i + 1)) (xs (i + 2)) (xs (i + 3)) ca) else cs) (if hJok (xs (i + 1)) (xs (i + 2)) (xs (i + 3)) = true then (if crN (xs (i + 1)) (xs (i + 3)) ca = 0 then cb + 1 else cb) else cb) (if hJok (xs (i + 1)) (xs (i + 2)) (xs (i + 3)) = true then (if crN (xs (i + 2)) (xs (i + 3)) ca = 0 then cd + 1 else cd) else cd) so bo rf of I F rw gd gl : va_W) _)
  refine k_i C h hp (r_runV C h hp 0 rfl rfl (As := [.int (xs (i + 1)), .int (xs (i + 2)), .int (xs (i + 3))]) (rest := [.int ra]) (m_judge l G md I F rw gd gl (xs (i + 1)) (xs (i + 2)) (xs (i + 3))) (cwV 3 C.1.1.2.2.2.2 gL_law_X10_judge rfl rfl rfl (by decide +kernel) ⟨Nat.le_of_ble_eq_true rfl, Nat.le_of_ble_eq_true rfl⟩) rfl hl.1 (Nat.le_of_ble_eq_true rfl) dL_law_1041 ⟨by show _ ≤ 601024; omega, by show _ ≤ 7293033; omega⟩) (fun rb ub H locs hwb h => ?_)
  have h : gS G A s (lW G ad md ou ng nw tn nl ne gn nb ns l1 l2 l3 tf l0 lf lt en ef et ep pr py ld ll lc bd bl sd sl ag z la tk tz lo wt tv D gc td tl fd st ca (if hJok (xs (i + 1)) (xs (i + 2)) (xs (i + 3)) = true then (crSt (xs (i + 1)) (xs (i + 2)) (xs (i + 3)) ca) else cs) (if hJok (xs (i + 1)) (xs (i + 2)) (xs (i + 3)) = true then (if crN (xs (i + 1)) (xs (i + 3)) ca = 0 then cb + 1 else cb) else cb) (if hJok (xs (i + 1)) (xs (i + 2)) (xs (i + 3)) = true then (if crN (xs (i + 2)) (xs (i + 3)) ca = 0 then cd + 1 else cd) else cd) so bo rf of ((mJudge I (xs (i + 1)) (xs (i + 2)) (xs (i + 3))).2) F rw gd gl) H locs := gS.perm h (List.Perm.symm (pmD px_1))
  have hq := la_judge (xs (i + 1)) (xs (i + 2)) (xs (i + 3)) hm
  rw [← hwa, ← hwb] at hq
  refine lv_icmp_eq (tgt := 1074) hx hb dL_law_1044 (by decide) (fun c_1044 => ?_) (fun c_1044 => ?_)
  · exact kx (lW G ad md ou ng nw tn nl ne gn nb ns l1 l2 l3 tf l0 lf lt en ef et ep pr py ld ll lc bd bl sd sl ag z la tk tz lo wt tv D gc td tl fd st ca (if hJok (xs (i + 1)) (xs (i + 2)) (xs (i + 3)) = true then (crSt (xs (i + 1)) (xs (i + 2)) (xs (i + 3)) ca) else cs) (if hJok (xs (i + 1)) (xs (i + 2)) (xs (i + 3)) = true then (if crN (xs (i + 1)) (xs (i + 3)) ca = 0 then cb + 1 else cb) else cb) (if hJok (xs (i + 1)) (xs (i + 2)) (xs (i + 3)) = true then (if crN (xs (i + 2)) (xs (i + 3)) ca = 0 then cd + 1 else cd) else cd) so bo rf of ((mJudge I (xs (i + 1)) (xs (i + 2)) (xs (i + 3))).2) F rw gd gl) _ _ _ _ ls ⟨ng, nw, tn, nl, ne, gn, nb, ns, l1, l2, l3, tf, l0, lf, lt, en, ef, et, ep, pr, py, ld, ll, lc, bd, bl, sd, sl, ag, z, la, tk, tz, lo, wt, tv, D, gc, td, tl, fd, st, ca, (if hJok (xs (i + 1)) (xs (i + 2)) (xs (i + 3)) = true then (crSt (xs (i + 1)) (xs (i + 2)) (xs (i + 3)) ca) else cs), (if hJok (xs (i + 1)) (xs (i + 2)) (xs (i + 3)) = true then (if crN (xs (i + 1)) (xs (i + 3)) ca = 0 then cb + 1 else cb) else cb), (if hJok (xs (i + 1)) (xs (i + 2)) (xs (i + 3)) = true then (if crN (xs (i + 2)) (xs (i + 3)) ca = 0 then cd + 1 else cd) else cd), so, bo, rf, of, ((mJudge I (xs (i + 1)) (xs (i + 2)) (xs (i + 3))).2), F, rw, gd, gl, L, rfl, hq.2, by omega, by omega⟩ h (lv_sub hl [0, 1, 2, 3, 4] rfl)
  · exact absurd (hq.1) c_1044

set_option maxHeartbeats 4000000 in
set_option maxRecDepth 100000 in
theorem lc_count {p : Program} {l : Launch} {e : Env} {s : State} {m : MethodId} {args : Array Value} {below : List Frame} {meth : Method} {c : Code} {cells slots : Nat} {Q : State → Prop} {G : gG} {A : Nat → Prop} (C : gC p m c cL_law 8 s args wsL_law RL G A) (ad md : Nat → Nat) (ou b Ls : Nat) (xs : Nat → Int32) (hX : va_X b Ls xs s s.heap) (hbl : b < s.heap.size) (hbA : ¬ A b) (hLs : Ls ≤ 3072) (i j : Nat) (hij : i = 6 * j) (hi6 : i + 6 ≤ Ls) (ng : Nat) (nw : Nat) (tn : Nat) (nl : Nat) (ne : Nat) (gn : Nat) (nb : Nat) (ns : Nat) (l1 : Nat) (l2 : Nat) (l3 : Nat) (tf : Nat → Int32) (l0 : Nat → Int32) (lf : Nat → Int32) (lt : Nat → Int32) (en : Nat → Int32) (ef : Nat → Int32) (et : Nat → Int32) (ep : Nat → Int32) (pr : Nat → Int32) (py : Nat → Int32) (ld : Nat → Int32) (ll : Nat → Int32) (lc : Nat → Int32) (bd : Nat → Int32) (bl : Nat → Int32) (sd : Nat → Int32) (sl : Nat → Int32) (ag : Nat → Int32) (z : RS) (la : Nat → Nat) (tk : Nat → Nat) (tz : Nat → Nat) (lo : Nat → Nat) (wt : Nat → Nat) (tv : Nat → Nat → Int32) (D : Nat → Nat → Int32) (gc : Int32) (td : Int32) (tl : Int32) (fd : Int32) (st : Int32) (ca : Int32) (cs : Int32) (cb : Int32) (cd : Int32) (so : Nat → Option Nat) (bo : Nat → Option Nat) (rf : Nat → Option Nat) (of : Nat → Int64) (I : Nat → Int32) (F : Nat → Nat → Int32) (rw : Nat) (gd : Int64) (gl : Int64) (L : Nat → Nat) (hm : hmR tn tf nl l0 lf lt tz tv ne en ef et ep ng D pr gn gc ld ll lc nw nb ns bd bl sd sl td tl fd st so ca cs cb cd I F L) (hcb : cells ≤ 200 + 10 * j + ltC gn) (hsb : slots ≤ 100000 + 300 * j + ltS gn)  (kx : ∀ (W9 : va_W) (cells slots : Nat) (H : Heap) (locs : List Loc) (ls : Array Slot), lwI G ad md ou (j + 1) W9 cells slots → gS G A s W9 H locs → lv_has ls 8 [(0, .ref b), (1, .ref (ad 0)), (2, .ref (md 0)), (3, .ref ou), (4, .int (nI i))] → W p l e room_1 s m args below meth c H locs cells slots Q (F0 m 1074 ls [])) (H : Heap) (locs : List Loc) (ls : Array Slot) (h : gS G A s (lW G ad md ou ng nw tn nl ne gn nb ns l1 l2 l3 tf l0 lf lt en ef et ep pr py ld ll lc bd bl sd sl ag z la tk tz lo wt tv D gc td tl fd st ca cs cb cd so bo rf of I F rw gd gl) H locs) (hl : lv_has ls 8 [(0, .ref b), (1, .ref (ad 0)), (2, .ref (md 0)), (3, .ref ou), (4, .int (nI i))]) : W p l e room_1 s m args below meth c H locs cells slots Q (F0 m 1049 ls []) := by
  have hx := C.1.1.1
  have hb := C.1.1.2.1
  have hlt := lt_b gn
  have hm9 := hm
  obtain ⟨hT, hL, hE, hG, hP, hD, hN, hB, hC⟩ := hm9
  refine lv_aload_n hx hb dL_law_1049 rfl (lv_at hl 1 rfl) ?_
  refine lv_aload_n hx hb dL_law_1050 rfl (lv_at hl 0 rfl) ?_
  refine lv_iload hx hb dL_law_1051 (lv_at hl 4 rfl) ?_
  refine lv_iconst (v := 1) hx hb dL_law_1053 (by decide) ?_
  refine lv_iadd hx hb dL_law_1054 ?_
  refine lv_cgi (y := nI (i + 1)) (ni_k i 1) ?_
  refine va_sld hx hb hX hbl hbA h.2.2 (i := (nI (i + 1))) (vp_in_nI (by omega) (by omega)) dL_law_1055 ?_
  refine lv_cgi (y := xs (i + 1)) (nn_at xs (by omega)) ?_
  have hp := (pmD px_13 : List.Perm (lW G ad md ou ng nw tn nl ne gn nb ns l1 l2 l3 tf l0 lf lt en ef et ep pr py ld ll lc bd bl sd sl ag z la tk tz lo wt tv D gc td tl fd st ca cs cb cd so bo rf of I F rw gd gl : va_W) _)
  refine k_i C h hp (r_runV C h hp 0 rfl rfl (As := [.int (xs (i + 1))]) (rest := []) (h_count l G ad ng nw tn tf nl l0 lf lt l1 l2 l3 gn gc ld ll lc td tl fd st nb ns bd bl sd sl so bo ag rf wt ca cs cb cd (xs (i + 1))) (cwV 1 C.1.1.2.2.2.2 gL_law_X9_count rfl rfl rfl (by decide +kernel) ⟨Nat.le_of_ble_eq_true rfl, Nat.le_of_ble_eq_true rfl⟩) rfl hl.1 (Nat.le_of_ble_eq_true rfl) dL_law_1056 ⟨by show _ ≤ 601024; omega, by show _ ≤ 7293033; omega⟩) (fun ra ua H locs hwa h => ?_)
  have h : gS G A s (lW G ad md ou ng nw tn nl ne gn nb ns l1 l2 l3 tf l0 lf lt en ef et ep pr py ld ll lc bd bl sd sl ag z la tk tz lo wt tv D gc td tl fd st ca cs cb cd so bo rf of I F rw gd gl) H locs := gS.perm h (List.Perm.symm (pmD px_13))
  refine lv_aload_n hx hb dL_law_1059 rfl (lv_at hl 2 rfl) ?_
  refine lv_aload_n hx hb dL_law_1060 rfl (lv_at hl 0 rfl) ?_
  refine lv_iload hx hb dL_law_1061 (lv_at hl 4 rfl) ?_
  refine lv_iconst (v := 1) hx hb dL_law_1063 (by decide) ?_
  refine lv_iadd hx hb dL_law_1064 ?_
  refine lv_cgi (y := nI (i + 1)) (ni_k i 1) ?_
  refine va_sld hx hb hX hbl hbA h.2.2 (i := (nI (i + 1))) (vp_in_nI (by omega) (by omega)) dL_law_1065 ?_
  refine lv_cgi (y := xs (i + 1)) (nn_at xs (by omega)) ?_
  have hp := (pmD px_1 : List.Perm (lW G ad md ou ng nw tn nl ne gn nb ns l1 l2 l3 tf l0 lf lt en ef et ep pr py ld ll lc bd bl sd sl ag z la tk tz lo wt tv D gc td tl fd st ca cs cb cd so bo rf of I F rw gd gl : va_W) _)
  refine k_i C h hp (r_runV C h hp 0 rfl rfl (As := [.int (xs (i + 1))]) (rest := [.int ra]) (m_count l G md I F rw gd gl (xs (i + 1))) (cwV 1 C.1.1.2.2.2.2 gL_law_X10_count rfl rfl rfl (by decide +kernel) ⟨Nat.le_of_ble_eq_true rfl, Nat.le_of_ble_eq_true rfl⟩) rfl hl.1 (Nat.le_of_ble_eq_true rfl) dL_law_1066 ⟨by show _ ≤ 601024; omega, by show _ ≤ 7293033; omega⟩) (fun rb ub H locs hwb h => ?_)
  have h : gS G A s (lW G ad md ou ng nw tn nl ne gn nb ns l1 l2 l3 tf l0 lf lt en ef et ep pr py ld ll lc bd bl sd sl ag z la tk tz lo wt tv D gc td tl fd st ca cs cb cd so bo rf of ((mCount I F (xs (i + 1))).2) F rw gd gl) H locs := gS.perm h (List.Perm.symm (pmD px_1))
  have hq := la_count (xs (i + 1)) hm
  rw [← hwa, ← hwb] at hq
  refine lv_icmp_eq (tgt := 1074) hx hb dL_law_1069 (by decide) (fun c_1069 => ?_) (fun c_1069 => ?_)
  · exact kx (lW G ad md ou ng nw tn nl ne gn nb ns l1 l2 l3 tf l0 lf lt en ef et ep pr py ld ll lc bd bl sd sl ag z la tk tz lo wt tv D gc td tl fd st ca cs cb cd so bo rf of ((mCount I F (xs (i + 1))).2) F rw gd gl) _ _ _ _ ls ⟨ng, nw, tn, nl, ne, gn, nb, ns, l1, l2, l3, tf, l0, lf, lt, en, ef, et, ep, pr, py, ld, ll, lc, bd, bl, sd, sl, ag, z, la, tk, tz, lo, wt, tv, D, gc, td, tl, fd, st, ca, cs, cb, cd, so, bo, rf, of, ((mCount I F (xs (i + 1))).2), F, rw, gd, gl, L, rfl, (hm_jm hq.2 hm), by omega, by omega⟩ h (lv_sub hl [0, 1, 2, 3, 4] rfl)
  · exact absurd (hq.1) c_1069
