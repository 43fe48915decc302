theorem lw_gt {i L : Nat} (hi : i < 2 ^ 20) (hL : L < 2 ^ 20) : nI L - 6 < nI i ↔ L < i + 6 := by
  rw [Int32.lt_iff_toInt_lt, nI_toInt (by omega)]
  rcases Nat.lt_or_ge L 6 with q | q
  · have h := (show ∀ L, L < 6 → (nI L - 6).toInt = (L : Int) - 6 by decide +kernel) L q
    rw [h]; omega
  · have h : nI L - 6 = nI (L - 6) := by
      have h2 : nI L = nI (L - 6) + 6 := by rw [show (nI (L - 6) + 6 : Int32) = nI (L - 6 + 6) from nI_add (L - 6) 6]; congr 1; omega
      rw [h2]; exact Int32.add_sub_cancel _ _
    rw [h, nI_toInt (by omega)]; omega
set_option maxHeartbeats 4000000 in
set_option maxRecDepth 100000 in
theorem lw_loop {p : Program} {l : Launch} {e : Env} {s : State} {m : MethodId} {args : Array Value} {below : List Frame} {meth : Method} {c : Code} {X : gw_X} {Q : State → Prop} {b L : Nat} {xs : Nat → Int32} (C0 : gm_At p s m args meth c X cL_law 4 RL wsL_law ret) (hXs : va_X b L xs s s.heap) (hbl : b < s.heap.size) (hbA : ¬ gw_A X b) (hL : L ≤ 3072) (kr : ∀ (H : Heap) (locs : List Loc) (ls : Array Slot), va_S (gw_A X) s.heap H locs → W p l e room_1 s m args below meth c H locs 84 3429 Q (F0 m 1286 ls [])) : ∀ (n i : Nat), i ≤ L → L ≤ i + 6 * n → ∀ (σ : gs_S) (H : Heap) (locs : List Loc) (ls : Array Slot), inv σ → gw_P X σ H → va_S (gw_A X) s.heap H locs → lv_has ls 4 [(0, .ref b), (1, .ref (X.1 0)), (2, .ref (X.1 63)), (3, .int (nI i))] → W p l e room_1 s m args below meth c H locs 84 3429 Q (F0 m 18 ls []) := by
  obtain ⟨hx, hb, hml, hown, hts, hr, hlocks, hC⟩ := id C0
  intro n
  induction n with
  | zero =>
    intro i h1 h2 σ H locs ls hI hP hS hl
    have e1 : i = L := by omega
    refine lv_iload_n hx hb dL_law_18 rfl (lv_at hl 3 rfl) ?_
    refine lv_aload_n hx hb dL_law_19 rfl (lv_at hl 0 rfl) ?_
    refine va_slen hx hb hXs hbl hbA hS dL_law_20 ?_
    refine lv_bipush (v := 6) hx hb dL_law_21 (by decide) ?_
    refine lv_isub hx hb dL_law_23 ?_
    refine lv_icmp_gt (tgt := 1286) hx hb dL_law_24 (by decide) (fun hc => kr H locs ls hS) (fun hc => absurd ((lw_gt (by omega) (by omega)).mpr (by omega)) hc)
  | succ n ih =>
    intro i h1 h2 σ H locs ls hI hP hS hl
    refine lv_iload_n hx hb dL_law_18 rfl (lv_at hl 3 rfl) ?_
    refine lv_aload_n hx hb dL_law_19 rfl (lv_at hl 0 rfl) ?_
    refine va_slen hx hb hXs hbl hbA hS dL_law_20 ?_
    refine lv_bipush (v := 6) hx hb dL_law_21 (by decide) ?_
    refine lv_isub hx hb dL_law_23 ?_
    refine lv_icmp_gt (tgt := 1286) hx hb dL_law_24 (by decide) (fun hc => kr H locs ls hS) (fun hc => ?_)
    have hi : i + 6 ≤ L := by
      rcases Nat.lt_or_ge L (i + 6) with q | q
      · exact absurd ((lw_gt (by omega) (by omega)).mpr q) hc
      · exact q
    have hin0 : vp_in (nI i) L := vp_in_nI (by omega) (by omega)
    refine lv_aload_n hx hb dL_law_27 rfl (lv_at hl 0 rfl) ?_
    refine lv_iload_n hx hb dL_law_28 rfl (lv_at hl 3 rfl) ?_
    refine va_sld hx hb hXs hbl hbA hS hin0 dL_law_29 ?_
    refine lv_bipush (v := 63) hx hb dL_law_30 (by decide) ?_
    refine lv_iand hx hb dL_law_32 ?_
    have kk : ∀ (τ : gs_S) (H : Heap) (locs : List Loc) (ls : Array Slot), inv τ → gw_P X τ H → va_S (gw_A X) s.heap H locs → lv_has ls 4 [(0, .ref b), (1, .ref (X.1 0)), (2, .ref (X.1 63)), (3, .int (nI i))] → W p l e room_1 s m args below meth c H locs 84 3429 Q (F0 m 1280 ls []) := by
      intro τ H locs ls hI hP hS hl
      refine lv_iinc (v := nI (i + 6)) (lv' := [(3, .int (nI (i + 6))), (0, .ref b), (1, .ref (X.1 0)), (2, .ref (X.1 63))]) hx hb dL_law_1280 hl (k := 3) rfl (by rw [← nI_add i 6]; rfl) (by decide) rfl (fun ls hl => ?_)
      refine lv_goto (tgt := 18) hx hb dL_law_1283 (by decide) ?_
      exact ih (i + 6) (by omega) (by omega) τ H locs ls hI hP hS (lv_sub hl [1, 2, 3, 0] rfl)
    obtain ⟨v, ev⟩ : ∃ v : Int32, v = xs (nI i).toNatClampNeg &&& 63 := ⟨_, rfl⟩
    rw [← ev]
    by_cases hv0 : v = 0
    · refine gv_tin (k := 0) (tgt := 180) hx hb dL_law_33 hv0 (by decide) (by decide) rfl (by decide) ?_
      exact lw_c0 C0 hXs hbl hbA hL i hi σ hI hP hS hl kk
    by_cases hv1 : v = 1
    · refine gv_tin (k := 1) (tgt := 223) hx hb dL_law_33 hv1 (by decide) (by decide) rfl (by decide) ?_
      exact lw_c1 C0 hXs hbl hbA hL i hi σ hI hP hS hl kk
    by_cases hv2 : v = 2
    · refine gv_tin (k := 2) (tgt := 256) hx hb dL_law_33 hv2 (by decide) (by decide) rfl (by decide) ?_
      exact lw_c2 C0 hXs hbl hbA hL i hi σ hI hP hS hl kk
    by_cases hv3 : v = 3
    · refine gv_tin (k := 3) (tgt := 289) hx hb dL_law_33 hv3 (by decide) (by decide) rfl (by decide) ?_
      exact lw_c3 C0 hXs hbl hbA hL i hi σ hI hP hS hl kk
    by_cases hv4 : v = 4
    · refine gv_tin (k := 4) (tgt := 322) hx hb dL_law_33 hv4 (by decide) (by decide) rfl (by decide) ?_
      exact lw_c4 C0 hXs hbl hbA hL i hi σ hI hP hS hl kk
    by_cases hv5 : v = 5
    · refine gv_tin (k := 5) (tgt := 385) hx hb dL_law_33 hv5 (by decide) (by decide) rfl (by decide) ?_
      exact lw_c5 C0 hXs hbl hbA hL i hi σ hI hP hS hl kk
    by_cases hv6 : v = 6
    · refine gv_tin (k := 6) (tgt := 398) hx hb dL_law_33 hv6 (by decide) (by decide) rfl (by decide) ?_
      exact lw_c6 C0 hXs hbl hbA hL i hi σ hI hP hS hl kk
    by_cases hv7 : v = 7
    · refine gv_tin (k := 7) (tgt := 411) hx hb dL_law_33 hv7 (by decide) (by decide) rfl (by decide) ?_
      exact lw_c7 C0 hXs hbl hbA hL i hi σ hI hP hS hl kk
    by_cases hv8 : v = 8
    · refine gv_tin (k := 8) (tgt := 434) hx hb dL_law_33 hv8 (by decide) (by decide) rfl (by decide) ?_
      exact lw_c8 C0 hXs hbl hbA hL i hi σ hI hP hS hl kk
    by_cases hv9 : v = 9
    · refine gv_tin (k := 9) (tgt := 477) hx hb dL_law_33 hv9 (by decide) (by decide) rfl (by decide) ?_
      exact lw_c9 C0 hXs hbl hbA hL i hi σ hI hP hS hl kk
    by_cases hv10 : v = 10
    · refine gv_tin (k := 10) (tgt := 490) hx hb dL_law_33 hv10 (by decide) (by decide) rfl (by decide) ?_
      exact lw_c10 C0 hXs hbl hbA hL i hi σ hI hP hS hl kk
    by_cases hv11 : v = 11
    · refine gv_tin (k := 11) (tgt := 513) hx hb dL_law_33 hv11 (by decide) (by decide) rfl (by decide) ?_
      exact lw_c11 C0 hXs hbl hbA hL i hi σ hI hP hS hl kk
    by_cases hv12 : v = 12
    · refine gv_tin (k := 12) (tgt := 536) hx hb dL_law_33 hv12 (by decide) (by decide) rfl (by decide) ?_
      exact lw_c12 C0 hXs hbl hbA hL i hi σ hI hP hS hl kk
    by_cases hv13 : v = 13
    · refine gv_tin (k := 13) (tgt := 569) hx hb dL_law_33 hv13 (by decide) (by decide) rfl (by decide) ?_
      exact lw_c13 C0 hXs hbl hbA hL i hi σ hI hP hS hl kk
    by_cases hv14 : v = 14
    · refine gv_tin (k := 14) (tgt := 592) hx hb dL_law_33 hv14 (by decide) (by decide) rfl (by decide) ?_
      exact lw_c14 C0 hXs hbl hbA hL i hi σ hI hP hS hl kk
    by_cases hv15 : v = 15
    · refine gv_tin (k := 15) (tgt := 616) hx hb dL_law_33 hv15 (by decide) (by decide) rfl (by decide) ?_
      exact lw_c15 C0 hXs hbl hbA hL i hi σ hI hP hS hl kk
    by_cases hv16 : v = 16
    · refine gv_tin (k := 16) (tgt := 639) hx hb dL_law_33 hv16 (by decide) (by decide) rfl (by decide) ?_
      exact lw_c16 C0 hXs hbl hbA hL i hi σ hI hP hS hl kk
    by_cases hv17 : v = 17
    · refine gv_tin (k := 17) (tgt := 702) hx hb dL_law_33 hv17 (by decide) (by decide) rfl (by decide) ?_
      exact lw_c17 C0 hXs hbl hbA hL i hi σ hI hP hS hl kk
    by_cases hv18 : v = 18
    · refine gv_tin (k := 18) (tgt := 745) hx hb dL_law_33 hv18 (by decide) (by decide) rfl (by decide) ?_
      exact lw_c18 C0 hXs hbl hbA hL i hi σ hI hP hS hl kk
    by_cases hv19 : v = 19
    · refine gv_tin (k := 19) (tgt := 798) hx hb dL_law_33 hv19 (by decide) (by decide) rfl (by decide) ?_
      exact lw_c19 C0 hXs hbl hbA hL i hi σ hI hP hS hl kk
    by_cases hv20 : v = 20
    · refine gv_tin (k := 20) (tgt := 831) hx hb dL_law_33 hv20 (by decide) (by decide) rfl (by decide) ?_
      exact lw_c20 C0 hXs hbl hbA hL i hi σ hI hP hS hl kk
    by_cases hv21 : v = 21
    · refine gv_tin (k := 21) (tgt := 874) hx hb dL_law_33 hv21 (by decide) (by decide) rfl (by decide) ?_
      exact lw_c21 C0 hXs hbl hbA hL i hi σ hI hP hS hl kk
    by_cases hv22 : v = 22
    · refine gv_tin (k := 22) (tgt := 887) hx hb dL_law_33 hv22 (by decide) (by decide) rfl (by decide) ?_
      exact lw_c22 C0 hXs hbl hbA hL i hi σ hI hP hS hl kk
    by_cases hv23 : v = 23
    · refine gv_tin (k := 23) (tgt := 930) hx hb dL_law_33 hv23 (by decide) (by decide) rfl (by decide) ?_
      exact lw_c23 C0 hXs hbl hbA hL i hi σ hI hP hS hl kk
    by_cases hv24 : v = 24
    · refine gv_tin (k := 24) (tgt := 983) hx hb dL_law_33 hv24 (by decide) (by decide) rfl (by decide) ?_
      exact lw_c24 C0 hXs hbl hbA hL i hi σ hI hP hS hl kk
    by_cases hv25 : v = 25
    · refine gv_tin (k := 25) (tgt := 996) hx hb dL_law_33 hv25 (by decide) (by decide) rfl (by decide) ?_
      exact lw_c25 C0 hXs hbl hbA hL i hi σ hI hP hS hl kk
    by_cases hv26 : v = 26
    · refine gv_tin (k := 26) (tgt := 1009) hx hb dL_law_33 hv26 (by decide) (by decide) rfl (by decide) ?_
      exact lw_c26 C0 hXs hbl hbA hL i hi σ hI hP hS hl kk
    by_cases hv27 : v = 27
    · refine gv_tin (k := 27) (tgt := 1022) hx hb dL_law_33 hv27 (by decide) (by decide) rfl (by decide) ?_
      exact lw_c27 C0 hXs hbl hbA hL i hi σ hI hP hS hl kk
    by_cases hv28 : v = 28
    · refine gv_tin (k := 28) (tgt := 1035) hx hb dL_law_33 hv28 (by decide) (by decide) rfl (by decide) ?_
      exact lw_c28 C0 hXs hbl hbA hL i hi σ hI hP hS hl kk
    by_cases hv29 : v = 29
    · refine gv_tin (k := 29) (tgt := 1088) hx hb dL_law_33 hv29 (by decide) (by decide) rfl (by decide) ?_
      exact lw_c29 C0 hXs hbl hbA hL i hi σ hI hP hS hl kk
    by_cases hv30 : v = 30
    · refine gv_tin (k := 30) (tgt := 1131) hx hb dL_law_33 hv30 (by decide) (by decide) rfl (by decide) ?_
      exact lw_c30 C0 hXs hbl hbA hL i hi σ hI hP hS hl kk
    by_cases hv31 : v = 31
    · refine gv_tin (k := 31) (tgt := 1174) hx hb dL_law_33 hv31 (by decide) (by decide) rfl (by decide) ?_
      exact lw_c31 C0 hXs hbl hbA hL i hi σ hI hP hS hl kk
    by_cases hv32 : v = 32
    · refine gv_tin (k := 32) (tgt := 1197) hx hb dL_law_33 hv32 (by decide) (by decide) rfl (by decide) ?_
      exact lw_c32 C0 hXs hbl hbA hL i hi σ hI hP hS hl kk
    refine lv_tableOut (tgt := 1280) hx hb dL_law_33 (by have n0 := lv_neT hv0 (show (0 : Int32).toInt = 0 by decide); have n1 := lv_neT hv1 (show (1 : Int32).toInt = 1 by decide); have n2 := lv_neT hv2 (show (2 : Int32).toInt = 2 by decide); have n3 := lv_neT hv3 (show (3 : Int32).toInt = 3 by decide); have n4 := lv_neT hv4 (show (4 : Int32).toInt = 4 by decide); have n5 := lv_neT hv5 (show (5 : Int32).toInt = 5 by decide); have n6 := lv_neT hv6 (show (6 : Int32).toInt = 6 by decide); have n7 := lv_neT hv7 (show (7 : Int32).toInt = 7 by decide); have n8 := lv_neT hv8 (show (8 : Int32).toInt = 8 by decide); have n9 := lv_neT hv9 (show (9 : Int32).toInt = 9 by decide); have n10 := lv_neT hv10 (show (10 : Int32).toInt = 10 by decide); have n11 := lv_neT hv11 (show (11 : Int32).toInt = 11 by decide); have n12 := lv_neT hv12 (show (12 : Int32).toInt = 12 by decide); have n13 := lv_neT hv13 (show (13 : Int32).toInt = 13 by decide); have n14 := lv_neT hv14 (show (14 : Int32).toInt = 14 by decide); have n15 := lv_neT hv15 (show (15 : Int32).toInt = 15 by decide); have n16 := lv_neT hv16 (show (16 : Int32).toInt = 16 by decide); have n17 := lv_neT hv17 (show (17 : Int32).toInt = 17 by decide); have n18 := lv_neT hv18 (show (18 : Int32).toInt = 18 by decide); have n19 := lv_neT hv19 (show (19 : Int32).toInt = 19 by decide); have n20 := lv_neT hv20 (show (20 : Int32).toInt = 20 by decide); have n21 := lv_neT hv21 (show (21 : Int32).toInt = 21 by decide); have n22 := lv_neT hv22 (show (22 : Int32).toInt = 22 by decide); have n23 := lv_neT hv23 (show (23 : Int32).toInt = 23 by decide); have n24 := lv_neT hv24 (show (24 : Int32).toInt = 24 by decide); have n25 := lv_neT hv25 (show (25 : Int32).toInt = 25 by decide); have n26 := lv_neT hv26 (show (26 : Int32).toInt = 26 by decide); have n27 := lv_neT hv27 (show (27 : Int32).toInt = 27 by decide); have n28 := lv_neT hv28 (show (28 : Int32).toInt = 28 by decide); have n29 := lv_neT hv29 (show (29 : Int32).toInt = 29 by decide); have n30 := lv_neT hv30 (show (30 : Int32).toInt = 30 by decide); have n31 := lv_neT hv31 (show (31 : Int32).toInt = 31 by decide); have n32 := lv_neT hv32 (show (32 : Int32).toInt = 32 by decide); omega) (by decide) ?_
    exact kk σ H locs ls hI hP hS hl
