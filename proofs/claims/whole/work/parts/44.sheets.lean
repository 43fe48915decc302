/-! PURE, 44: sheets: drop, sheet, item -/
theorem pz_byte (a : Int64) : (vp_nar .byte ((a.toInt32).toInt8.toInt32)).toInt64 = (a <<< ((56 : Int32).toInt64 &&& 63)) >>> ((56 : Int32).toInt64 &&& 63) := by
  have e56 : ((56 : Int32).toInt64 &&& 63) = (56 : Int64) := by decide
  have es : (56 : Int64).toBitVec.smod 64 = 56#64 := by decide
  rw [e56]
  have en : ∀ x : Int32, vp_nar .byte x = x.toInt8.toInt32 := fun x => rfl
  rw [en]
  apply Int64.toBitVec_inj.mp
  rw [Int64.toBitVec_shiftRight, Int64.toBitVec_shiftLeft]
  show _ = (a.toBitVec <<< ((56 : Int64).toBitVec.smod 64)).sshiftRight' ((56 : Int64).toBitVec.smod 64)
  rw [es, Int32.toBitVec_toInt64, Int8.toBitVec_toInt32, Int32.toBitVec_toInt8, Int8.toBitVec_toInt32, Int32.toBitVec_toInt8, Int64.toBitVec_toInt32]
  apply BitVec.eq_of_getLsbD_eq
  intro i hi
  rw [BitVec.getLsbD_sshiftRight']
  simp only [BitVec.getLsbD_signExtend, BitVec.shiftLeft_eq', BitVec.getLsbD_shiftLeft, BitVec.msb_eq_getLsbD_last, show (56#64).toNat = 56 from rfl]
  by_cases h : i < 8
  · simp [h, hi, show i < 32 by omega, show i < 64 by omega, show 56 + i < 64 by omega, show ¬ 64 ≤ i by omega, show ¬ 56 + i < 56 by omega]
  · by_cases h3 : i < 32
    · simp [h, hi, h3, show ¬ 56 + i < 64 by omega, show ¬ 64 ≤ i by omega]
    · simp [h, hi, h3, show ¬ 56 + i < 64 by omega, show ¬ 64 ≤ i by omega]
def iv_sh (σ : gs_S) (s : Nat) : Prop := iv_sheet (σ.1 (47 + 4 * s) 3) (σ.1 (47 + 4 * s) 4) (σ.1 81 s) (σ.1 82 s) (σ.1 (49 + 4 * s)) (σ.2 (50 + 4 * s)) (fun k => σ.2 83 (24 * s + k))
theorem inv_sh {σ : gs_S} (h : inv σ) : ∀ s, s < 4 → iv_sh σ s := by
  obtain ⟨-, -, -, -, -, -, -, -, h0, h1, h2, h3⟩ := h
  intro s hs
  rcases (show s = 0 ∨ s = 1 ∨ s = 2 ∨ s = 3 by omega) with rfl | rfl | rfl | rfl
  · unfold iv_sh; simp only [Nat.mul_zero, Nat.zero_add]; exact h0
  · exact h1
  · exact h2
  · exact h3
/-- what stands outside the sheets' cells stays: the relation stays, if the sheets keep theirs -/
theorem inv_shB {σ τ : gs_S} (h : inv σ) (hc : ∀ c, (c < 47 ∨ (63 ≤ c ∧ c ≤ 80)) → τ.1 c = σ.1 c) (hs : ∀ s, s < 4 → iv_sh τ s) : inv τ := by
  obtain ⟨a1, a2, a3, a4, a5, a6, a7, a8, -⟩ := h
  have s0 := hs 0 (by decide)
  unfold iv_sh at s0
  simp only [Nat.mul_zero, Nat.zero_add] at s0
  refine ⟨?_, ?_, ?_, ?_, ?_, ?_, ?_, ?_, s0, hs 1 (by decide), hs 2 (by decide), hs 3 (by decide)⟩
  · rw [hc 3 (by omega), hc 64 (by omega)]; exact a1
  · rw [hc 4 (by omega), hc 63 (by omega), hc 5 (by omega), hc 6 (by omega), hc 7 (by omega), hc 65 (by omega), hc 66 (by omega), hc 67 (by omega)]; exact a2
  · rw [hc 8 (by omega), hc 63 (by omega), hc 9 (by omega), hc 68 (by omega)]; exact a3
  · rw [hc 1 (by omega), hc 69 (by omega)]; exact a4
  · rw [hc 1 (by omega), hc 69 (by omega)]; exact a5
  · rw [hc 10 (by omega), hc 63 (by omega), hc 11 (by omega), hc 70 (by omega), hc 12 (by omega), hc 13 (by omega), hc 14 (by omega), hc 71 (by omega)]; exact a6
  · rw [hc 29 (by omega), hc 63 (by omega), hc 30 (by omega), hc 72 (by omega)]; exact a7
  · unfold iv_kept
    rw [hc 0 (by omega), hc 63 (by omega), hc 17 (by omega), hc 79 (by omega), hc 18 (by omega), hc 80 (by omega), hc 19 (by omega), hc 20 (by omega), hc 21 (by omega), hc 22 (by omega), hc 23 (by omega), hc 15 (by omega), hc 24 (by omega), hc 25 (by omega), hc 26 (by omega), hc 27 (by omega), hc 28 (by omega)]; exact a8
theorem op_drop (σ : gs_S) (hI : inv σ) (a1 : Int32) : ∃ (r : Int32) (σ1 : gs_S) (σ2 : gs_S), pX10_drop a1 σ = some (r, σ1) ∧ pX11_drop a1 σ1 = some (r, σ2) ∧ inv σ2 := by
  unfold pX10_drop pX11_drop pX10_isSheet
  by_cases h1 : iv_in a1 0 3
  rotate_left
  · exact ⟨-1, σ, σ, pz_if_f (pz_w10 a1 0 3) h1 _ _, pz_if_f (pz_x11 a1 0 3) h1 _ _, hI⟩
  rw [pz_if_t (pz_w10 a1 0 3) h1]
  obtain ⟨s, hs, rfl⟩ := pz_nat 3 h1 (by decide)
  have hs : s < 4 := by omega
  obtain ⟨e1, e2, m, hm, e3, e4, e5, e6⟩ := inv_sh hI s hs
  simp only [pz_inN hs (by decide), nI_clamp (show s < 2 ^ 31 by omega), Nat.reduceAdd, gv_let]
  by_cases hz : σ.1 (47 + 4 * s) 3 = -1
  · refine ⟨-11, σ, σ, if_pos hz, ?_, hI⟩
    rw [pz_if_t (pz_x11 (nI s) 0 3) h1, ← e1, hz, if_neg (by decide)]
  · obtain ⟨τ, eτ⟩ : ∃ τ, τ = gs_u σ (47 + 4 * s) 3 (-1) := ⟨_, rfl⟩
    have t1 : τ.1 81 = σ.1 81 := by rw [eτ, pz_u, if_neg (by omega)]
    have t2 : τ.1 82 = σ.1 82 := by rw [eτ, pz_u, if_neg (by omega)]
    have t3 : τ.1 (47 + 4 * s) 4 = nI m := by rw [eτ, pz_u, if_pos rfl, pz_upd, if_neg (by decide)]; exact e3
    refine ⟨nI m, τ, gs_u τ 81 s (-1), ?_, ?_, ?_⟩
    · rw [if_neg hz, ← eτ, t3]
    · rw [pz_if_t (pz_x11 (nI s) 0 3) h1, t1, if_pos (by rw [← e1]; rcases e2 with q | q | q | q <;> first | exact absurd q hz | (rw [q]; decide))]
      show some ((gs_u τ 81 s (-1)).1 82 s, _) = _
      rw [pz_u, if_neg (by decide), t2, e4]
    · refine inv_shB hI (fun c hc => ?_) (fun s2 hs2 => ?_)
      · rw [pz_u, if_neg (by omega), eτ, pz_u, if_neg (by omega)]
      · by_cases es : s2 = s
        · subst es
          refine ⟨?_, Or.inl ?_, m, hm, ?_, ?_, fun q => ?_, fun q => ?_⟩
          · rw [pz_u, if_neg (by omega), eτ, pz_u, if_pos rfl, pz_u, if_pos rfl, pz_upd, if_pos rfl, pz_upd, if_pos rfl]
          · rw [pz_u, if_neg (by omega), eτ, pz_u, if_pos rfl, pz_upd, if_pos rfl]
          · rw [pz_u, if_neg (by omega)]; exact t3
          · rw [pz_u, if_neg (by decide), t2]; exact e4
          · rw [pz_u, if_neg (by omega), eτ, pz_u, if_pos rfl, pz_upd, if_pos rfl] at q; exact absurd q (by decide)
          · rw [pz_u, if_neg (by omega), eτ, pz_u, if_pos rfl, pz_upd, if_pos rfl] at q; exact absurd q (by decide)
        · have g := inv_sh hI s2 hs2
          unfold iv_sh
          rw [pz_u τ 81 s (-1) (47 + 4 * s2), if_neg (by omega), pz_u τ 81 s (-1) 81, if_pos rfl, pz_upd, if_neg es, pz_u τ 81 s (-1) 82, if_neg (by decide), pz_u τ 81 s (-1) (49 + 4 * s2), if_neg (by omega), pz_u2, t1, t2, eτ, pz_u σ (47 + 4 * s) 3 (-1) (47 + 4 * s2), if_neg (by omega), pz_u σ (47 + 4 * s) 3 (-1) (49 + 4 * s2), if_neg (by omega), pz_u2]
          exact g
/-- may a row of n items from 'from' on be had? (both say the same) -/
def zR (ln sz a from_ n : Int32) : Int32 := if ln = (-1 : Int32) then (-11 : Int32) else if ln = a then if from_ < 0 then (-13 : Int32) else if from_ ≤ sz - n then (0 : Int32) else (-13 : Int32) else (-12 : Int32)
theorem pz_lacks {s : Nat} (hs : s < 4) (σ : gs_S) (a from_ n : Int32) (ha : iv_in a 0 2) (h : iv_sh σ s) : pX11_lacksRow (nI s) a from_ n σ = some (zR (σ.1 (47 + 4 * s) 3) (σ.1 (47 + 4 * s) 4) a from_ n) := by
  obtain ⟨e1, e2, m, hm, e3, e4, -⟩ := h
  unfold pX11_lacksRow
  simp only [pz_inN hs (by decide), nI_clamp (show s < 2 ^ 31 by omega)]
  rw [← e1, e4, e3]
  unfold zR
  by_cases c1 : σ.1 (47 + 4 * s) 3 = a
  · rw [if_pos c1, if_pos c1, if_neg (show ¬ σ.1 (47 + 4 * s) 3 = -1 by rw [c1]; intro q; rw [q] at ha; exact absurd ha.1 (by decide))]
    by_cases c2 : from_ < 0
    · rw [if_pos c2, pz_if_f (pz_x11 from_ 0 _) (fun q => by have h0 : (0 : Int64).toInt = 0 := rfl; have := q.1; rw [Int32.lt_iff_toInt_lt] at c2; have h1 : (0 : Int32).toInt = 0 := rfl; omega)]
    · rw [if_neg c2]
      by_cases c3 : from_ ≤ nI m - n
      · rw [if_pos c3, pz_if_t (pz_x11 from_ 0 _) ⟨by rw [Int32.lt_iff_toInt_lt] at c2; have h1 : (0 : Int32).toInt = 0 := rfl; have h0 : (0 : Int64).toInt = 0 := rfl; omega, by rw [Int32.toInt_toInt64]; exact Int32.le_iff_toInt_le.mp c3⟩]
      · rw [if_neg c3, pz_if_f (pz_x11 from_ 0 _) (fun q => c3 (Int32.le_iff_toInt_le.mpr (by have := q.2; rw [Int32.toInt_toInt64] at this; exact this)))]
  · rw [if_neg c1]
    by_cases c4 : σ.1 (47 + 4 * s) 3 = -1
    · rw [if_pos c4, c4, if_neg (by decide)]
    · rw [if_neg c4, if_neg c1, if_pos (by rcases e2 with q | q | q | q <;> first | exact absurd q c4 | (rw [q]; decide))]
theorem zR_ok {ln a from_ n : Int32} {m : Nat} (h : zR ln (nI m) a from_ n = 0) : ln = a ∧ ¬ from_ < 0 ∧ from_ ≤ nI m - n := by
  unfold zR at h
  by_cases c0 : ln = -1
  · rw [if_pos c0] at h; exact absurd h (by decide)
  · rw [if_neg c0] at h
    by_cases c1 : ln = a
    · rw [if_pos c1] at h
      by_cases c2 : from_ < 0
      · rw [if_pos c2] at h; exact absurd h (by decide)
      · rw [if_neg c2] at h
        by_cases c3 : from_ ≤ nI m - n
        · exact ⟨c1, c2, c3⟩
        · rw [if_neg c3] at h; exact absurd h (by decide)
    · rw [if_neg c1] at h; exact absurd h (by decide)
theorem zR_neg (ln sz a from_ n : Int32) : zR ln sz a from_ n = 0 ∨ ¬ 0 ≤ zR ln sz a from_ n := by
  unfold zR
  by_cases c0 : ln = -1
  · rw [if_pos c0]; exact Or.inr (by decide)
  · rw [if_neg c0]
    by_cases c1 : ln = a
    · rw [if_pos c1]
      by_cases c2 : from_ < 0
      · rw [if_pos c2]; exact Or.inr (by decide)
      · rw [if_neg c2]
        by_cases c3 : from_ ≤ sz - n
        · rw [if_pos c3]; exact Or.inl rfl
        · rw [if_neg c3]; exact Or.inr (by decide)
    · rw [if_neg c1]; exact Or.inr (by decide)
theorem pz_isS (a b : Int32) : (pX11_isSheet a b = 0) ↔ ¬ (iv_in a 0 3 ∧ iv_in b 0 2) := by
  unfold pX11_isSheet
  by_cases h1 : iv_in a 0 3
  · rw [pz_if_t (pz_x11 a 0 3) h1]
    by_cases h2 : iv_in b 0 2
    · rw [pz_if_t (pz_x11 b 0 2) h2]; exact ⟨fun q => absurd q (by decide), fun q => absurd ⟨h1, h2⟩ q⟩
    · rw [pz_if_f (pz_x11 b 0 2) h2]; exact ⟨fun _ q => h2 q.2, fun _ => rfl⟩
  · rw [pz_if_f (pz_x11 a 0 3) h1]; exact ⟨fun _ q => h1 q.1, fun _ => rfl⟩
/-- the cell that a put of lane ln writes, and what it holds then -/
def zPut (σ : gs_S) (s j : Nat) (ln : Int32) (v : Int64) : gs_S := if ln = 0 then (if lg_cmp v 0 = 0 then gs_u σ (48 + 4 * s) j (vp_nar .boolean 0) else gs_u σ (48 + 4 * s) j (vp_nar .boolean 1)) else if ln = 1 then gs_u σ (49 + 4 * s) j (vp_nar .byte ((v.toInt32).toInt8.toInt32)) else gs_ul σ (50 + 4 * s) j v
theorem pz_sput {s j : Nat} (hj : j < 24) (σ : gs_S) (v : Int64) : pX5_put (47 + 4 * s) (nI j) v σ = some (zPut σ s j (σ.1 (47 + 4 * s) 3) v) := by
  unfold pX5_put zPut
  simp only [pz_inN hj (by decide), nI_clamp (show j < 2 ^ 31 by omega), gv_let, show 47 + 4 * s + 1 = 48 + 4 * s by omega, show 47 + 4 * s + 2 = 49 + 4 * s by omega, show 47 + 4 * s + 3 = 50 + 4 * s by omega]
  by_cases c0 : σ.1 (47 + 4 * s) 3 = 0
  · rw [if_pos c0, if_pos c0]
    by_cases c1 : lg_cmp v 0 = 0
    · rw [if_pos c1, if_pos c1]
    · rw [if_neg c1, if_neg c1]
  · rw [if_neg c0, if_neg c0]
    by_cases c1 : σ.1 (47 + 4 * s) 3 = 1
    · rw [if_pos c1, if_pos c1]
    · rw [if_neg c1, if_neg c1]
theorem zPut_1 (σ : gs_S) (s j : Nat) (ln : Int32) (v : Int64) (c : Nat) (h1 : ¬ c = 48 + 4 * s) (h2 : ¬ c = 49 + 4 * s) : (zPut σ s j ln v).1 c = σ.1 c := by
  unfold zPut
  by_cases c0 : ln = 0
  · rw [if_pos c0]
    by_cases c1 : lg_cmp v 0 = 0
    · rw [if_pos c1, pz_u, if_neg h1]
    · rw [if_neg c1, pz_u, if_neg h1]
  · rw [if_neg c0]
    by_cases c1 : ln = 1
    · rw [if_pos c1, pz_u, if_neg h2]
    · rw [if_neg c1, pz_ul1]
theorem zPut_2 (σ : gs_S) (s j : Nat) (ln : Int32) (v : Int64) (c : Nat) (h1 : ¬ c = 50 + 4 * s) : (zPut σ s j ln v).2 c = σ.2 c := by
  unfold zPut
  by_cases c0 : ln = 0
  · rw [if_pos c0]
    by_cases c1 : lg_cmp v 0 = 0
    · rw [if_pos c1, pz_u2]
    · rw [if_neg c1, pz_u2]
  · rw [if_neg c0]
    by_cases c1 : ln = 1
    · rw [if_pos c1, pz_u2]
    · rw [if_neg c1, pz_ul, if_neg h1]
