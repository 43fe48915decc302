/-! PURE, 45: item, sheet, film -/
theorem zPut_b {σ : gs_S} {s j : Nat} {ln : Int32} {v : Int64} (q : ln = 1) : zPut σ s j ln v = gs_u σ (49 + 4 * s) j (vp_nar .byte ((v.toInt32).toInt8.toInt32)) := by
  unfold zPut; rw [if_neg (by rw [q]; decide), if_pos q]
theorem zPut_l {σ : gs_S} {s j : Nat} {ln : Int32} {v : Int64} (q : ln = 2) : zPut σ s j ln v = gs_ul σ (50 + 4 * s) j v := by
  unfold zPut; rw [if_neg (by rw [q]; decide), if_neg (by rw [q]; decide)]
theorem inv_put (σ : gs_S) (hI : inv σ) (s j : Nat) (hs : s < 4) (hj : j < 24) (v w : Int64) (h1 : σ.1 (47 + 4 * s) 3 = 1 → (vp_nar .byte ((v.toInt32).toInt8.toInt32)).toInt64 = w) (h2 : σ.1 (47 + 4 * s) 3 = 2 → v = w) : inv (gs_ul (zPut σ s j (σ.1 (47 + 4 * s) 3) v) 83 (24 * s + j) w) := by
  refine inv_shB hI (fun c hc => ?_) (fun s2 hs2 => ?_)
  · rw [pz_ul1, zPut_1 _ _ _ _ _ _ (by omega) (by omega)]
  · have g := inv_sh hI s2 hs2
    unfold iv_sh at g ⊢
    rw [pz_ul1, zPut_1 _ _ _ _ _ (47 + 4 * s2) (by omega) (by omega), zPut_1 _ _ _ _ _ 81 (by omega) (by omega), zPut_1 _ _ _ _ _ 82 (by omega) (by omega), pz_ul _ 83 _ _ (50 + 4 * s2), if_neg (by omega), pz_ul _ 83 _ _ 83, if_pos rfl]
    by_cases es : s2 = s
    · subst es
      obtain ⟨e1, e2, m, hm, e3, e4, e5, e6⟩ := g
      refine ⟨e1, e2, m, hm, e3, e4, fun q k hk => ?_, fun q k hk => ?_⟩
      · rw [zPut_b q, pz_u, if_pos rfl, pz_u2]
        dsimp only
        rw [pz_upd, pz_updL]
        by_cases ek : k = j
        · rw [if_pos ek, if_pos (by omega)]; exact h1 q
        · rw [if_neg ek, if_neg (by omega)]; exact e5 q k hk
      · rw [zPut_l q, pz_ul, if_pos rfl, pz_ul, if_neg (by omega)]
        dsimp only
        rw [pz_updL, pz_updL]
        by_cases ek : k = j
        · rw [if_pos ek, if_pos (by omega)]; exact h2 q
        · rw [if_neg ek, if_neg (by omega)]; exact e6 q k hk
    · obtain ⟨e1, e2, m, hm, e3, e4, e5, e6⟩ := g
      refine ⟨e1, e2, m, hm, e3, e4, fun q k hk => ?_, fun q k hk => ?_⟩
      · rw [zPut_1 _ _ _ _ _ _ (by omega) (by omega), zPut_2 _ _ _ _ _ 83 (by omega)]; dsimp only; rw [pz_updL, if_neg (by omega)]; exact e5 q k hk
      · rw [zPut_2 _ _ _ _ _ _ (by omega), zPut_2 _ _ _ _ _ 83 (by omega)]; dsimp only; rw [pz_updL, if_neg (by omega)]; exact e6 q k hk
theorem pz_ref (t : Nat) (a b n : Int32) (σ : gs_S) : pX5_refusal t a b n σ = zR (σ.1 t 3) (σ.1 t 4) a b n := rfl
theorem pz_cnt {x : Int32} {m n : Nat} (hm : m ≤ 24) (hn : n ≤ 24) (h0 : ¬ x < 0) (h : x ≤ nI m - nI n) : ∃ j, x = nI j ∧ j + n ≤ m := by
  obtain ⟨j, hj, rfl⟩ := nI_of h0
  refine ⟨j, rfl, ?_⟩
  rcases Nat.lt_or_ge m n with q | q
  · have key := (show ∀ m, m ≤ 24 → ∀ n, n ≤ 24 → m < n → (nI m - nI n).toInt < 0 by decide +kernel) m hm n hn q
    rw [Int32.le_iff_toInt_le, nI_toInt hj] at h
    omega
  · have e : nI m - nI n = nI (m - n) := by
      have h9 : nI m = nI (m - n) + nI n := by rw [nI_add]; congr 1; omega
      rw [h9]; exact Int32.add_sub_cancel _ _
    rw [e, Int32.le_iff_toInt_le, nI_toInt hj, nI_toInt (by omega)] at h
    omega
theorem op_item (σ : gs_S) (hI : inv σ) (a1 : Int32) (a2 : Int32) (a3 : Int32) (a4 : Int64) : ∃ (r : Int32) (σ1 : gs_S) (σ2 : gs_S), pX10_item a1 a2 a3 a4 σ = some (r, σ1) ∧ pX11_item a1 a2 a3 a4 σ1 = some (r, σ2) ∧ inv σ2 := by
  unfold pX10_item pX11_item pX10_isSheet
  by_cases h1 : iv_in a1 0 3
  rotate_left
  · exact ⟨-1, σ, σ, pz_if_f (pz_w10 a1 0 3) h1 _ _, pz_if_f (pz_isS a1 a2) (fun q => h1 q.1) _ _, hI⟩
  rw [pz_if_t (pz_w10 a1 0 3) h1]
  by_cases h2 : iv_in a2 0 2
  rotate_left
  · exact ⟨-1, σ, σ, pz_if_f (pz_w10 a2 0 2) h2 _ _, pz_if_f (pz_isS a1 a2) (fun q => h2 q.2) _ _, hI⟩
  rw [pz_if_t (pz_w10 a2 0 2) h2]
  obtain ⟨s, hs, rfl⟩ := pz_nat 3 h1 (by decide)
  have hs : s < 4 := by omega
  have g := inv_sh hI s hs
  obtain ⟨e1, e2, m, hm, e3, e4, e5, e6⟩ := id g
  simp only [pz_inN hs (by decide), nI_clamp (show s < 2 ^ 31 by omega), Nat.reduceAdd, gv_let, pz_ref]
  by_cases hz : zR (σ.1 (47 + 4 * s) 3) (σ.1 (47 + 4 * s) 4) a2 a3 1 = 0
  rotate_left
  · refine ⟨_, σ, σ, if_neg hz, ?_, hI⟩
    rw [pz_if_t (pz_isS (nI s) a2) ⟨h1, h2⟩, pz_lacks hs σ a2 a3 1 h2 g]
    simp only [gv_bind]
    rw [if_neg (by rcases zR_neg (σ.1 (47 + 4 * s) 3) (σ.1 (47 + 4 * s) 4) a2 a3 1 with q | q; exact absurd q hz; exact q)]
  · have hz' := hz
    rw [e3] at hz'
    obtain ⟨q1, q2, q3⟩ := zR_ok hz'
    obtain ⟨j, rfl, hj⟩ := pz_cnt (n := 1) hm (by decide) q2 q3
    have hj : j < 24 := by omega
    rw [if_pos hz, pz_sput hj]
    obtain ⟨τ, eτ⟩ : ∃ τ, τ = zPut σ s j (σ.1 (47 + 4 * s) 3) a4 := ⟨_, rfl⟩
    have t1 : iv_sh τ s → True := fun _ => trivial
    have hl : pX11_lacksRow (nI s) a2 (nI j) 1 τ = some 0 := by
      have f1 : τ.1 81 = σ.1 81 := by rw [eτ, zPut_1 _ _ _ _ _ _ (by omega) (by omega)]
      have f2 : τ.1 82 = σ.1 82 := by rw [eτ, zPut_1 _ _ _ _ _ _ (by omega) (by omega)]
      have := pz_lacks hs σ a2 (nI j) 1 h2 g
      rw [hz] at this
      unfold pX11_lacksRow at this ⊢
      rw [f1, f2]; exact this
    have key : ∀ w : Int64, (σ.1 (47 + 4 * s) 3 = 1 → (vp_nar .byte ((a4.toInt32).toInt8.toInt32)).toInt64 = w) → (σ.1 (47 + 4 * s) 3 = 2 → a4 = w) → inv (gs_ul τ 83 (24 * s + j) w) := fun w w1 w2 => by rw [eτ]; exact inv_put σ hI s j hs hj a4 w w1 w2
    have ei : (24 : Int32) * nI s + nI j = nI (24 * s + j) := by rw [show (24 : Int32) * nI s = nI (24 * s) from nI_mul 24 s, nI_add]
    have hin : 24 * s + j < 96 := by omega
    simp only [gv_bind, hl, ei, pz_inN hin (by decide), nI_clamp (show 24 * s + j < 2 ^ 31 by omega), show (0 : Int32) ≤ 0 from by decide, if_true]
    rw [← eτ]
    by_cases c0 : a2 = 0
    · by_cases c1 : lg_cmp a4 0 = 0
      · exact ⟨1, τ, gs_ul τ 83 (24 * s + j) 0, rfl, by rw [pz_if_t (pz_isS (nI s) a2) ⟨h1, h2⟩, if_pos c0, if_pos c1, hl]; rfl, key 0 (fun q => by rw [q1, c0] at q; exact absurd q (by decide)) (fun q => by rw [q1, c0] at q; exact absurd q (by decide))⟩
      · exact ⟨1, τ, gs_ul τ 83 (24 * s + j) 1, rfl, by rw [pz_if_t (pz_isS (nI s) a2) ⟨h1, h2⟩, if_pos c0, if_neg c1, hl]; rfl, key 1 (fun q => by rw [q1, c0] at q; exact absurd q (by decide)) (fun q => by rw [q1, c0] at q; exact absurd q (by decide))⟩
    · by_cases c1 : a2 = 1
      · exact ⟨1, τ, gs_ul τ 83 (24 * s + j) ((a4 <<< ((56 : Int32).toInt64 &&& 63)) >>> ((56 : Int32).toInt64 &&& 63)), rfl, by rw [pz_if_t (pz_isS (nI s) a2) ⟨h1, h2⟩, if_neg c0, if_pos c1, hl]; rfl, key _ (fun q => pz_byte a4) (fun q => by rw [q1, c1] at q; exact absurd q (by decide))⟩
      · exact ⟨1, τ, gs_ul τ 83 (24 * s + j) a4, rfl, by rw [pz_if_t (pz_isS (nI s) a2) ⟨h1, h2⟩, if_neg c0, if_neg c1, hl]; rfl, key a4 (fun q => by rw [q1] at q; exact absurd q c1) (fun q => rfl)⟩
