/-! PURE, 49b: go -/
theorem gv_findh {S E : Type} (b : S → Option (S ⊕ E)) (f : Nat → S) (P : Nat → Prop) (x : Nat → E) (n N : Nat) (hn : n < N) (e : E) (hs : ∀ k, k < n → (∀ j, j < k → ¬ P j) → ¬ P k → b (f k) = some (.inl (f (k + 1)))) (hx : ∀ k, k < n → (∀ j, j < k → ¬ P j) → P k → b (f k) = some (.inr (x k))) (he : b (f n) = some (.inr e)) : (∃ k, k < n ∧ P k ∧ (∀ j, j < k → ¬ P j) ∧ gv_loop b N (f 0) = some (x k)) ∨ ((∀ k, k < n → ¬ P k) ∧ gv_loop b N (f 0) = some e) := by
  have key : ∀ (d k M : Nat), k + d = n → d < M → (∀ j, j < k → ¬ P j) → (∃ i, i < n ∧ P i ∧ (∀ j, j < i → ¬ P j) ∧ gv_loop b M (f k) = some (x i)) ∨ ((∀ i, i < n → ¬ P i) ∧ gv_loop b M (f k) = some e) := by
    intro d
    induction d with
    | zero =>
      intro k M h1 h2 h3
      obtain ⟨M', rfl⟩ : ∃ M', M = M' + 1 := ⟨M - 1, by omega⟩
      have : k = n := by omega
      subst this
      exact Or.inr ⟨h3, gv_loop_x b M' _ e he⟩
    | succ d ih =>
      intro k M h1 h2 h3
      obtain ⟨M', rfl⟩ : ∃ M', M = M' + 1 := ⟨M - 1, by omega⟩
      by_cases c : P k
      · exact Or.inl ⟨k, by omega, c, h3, gv_loop_x b M' _ _ (hx k (by omega) h3 c)⟩
      · rw [gv_loop_s b M' _ _ (hs k (by omega) h3 c)]
        exact ih (k + 1) M' (by omega) (by omega) (fun j hj => by
          by_cases q : j = k
          · rw [q]; exact c
          · exact h3 j (by omega))
  exact key n 0 N (by omega) hn (fun j hj => absurd hj (by omega))
def zSq (v : Int64) : Prop := 0 ≤ v.toInt ∧ v.toInt ≤ 63
theorem pz_sqL10 (v : Int64) : (pX10_isSquare v = 0) ↔ ¬ zSq v := by
  unfold pX10_isSquare
  rw [pz_within, pz_if10]; rfl
theorem pz_sqL11 (v : Int64) : (pX11_isSquare v = 0) ↔ ¬ zSq v := by
  unfold pX11_isSquare
  rw [pz_xin, pz_if10]; rfl
theorem zSq_in {v : Int64} (h : zSq v) : iv_in v.toInt32 0 63 := by
  unfold zSq at h
  unfold iv_in
  rw [Int64.toInt_toInt32, Int.bmod_eq_of_le (by omega) (by omega)]
  exact h
/-- place k of the row V from j on is no way's place -/
def zBad (V : Nat → Int64) (j k : Nat) : Prop := ¬ zSq (V (j + k)) ∨ (0 < k ∧ zNx (V (j + k - 1)).toInt32 (V (j + k)).toInt32 4 = 0)
def zGo (σ : gs_S) (V : Nat → Int64) (j : Nat) : Nat → gs_S
  | 0 => gs_u σ 8 1 0
  | k + 1 => gs_u (gs_u (zGo σ V j k) 9 k (V (j + k)).toInt32) 8 1 (nI (k + 1))
theorem zGo_1 (σ : gs_S) (V : Nat → Int64) (j c : Nat) (h1 : ¬ c = 8) (h2 : ¬ c = 9) : ∀ k, (zGo σ V j k).1 c = σ.1 c := by
  intro k
  induction k with
  | zero => unfold zGo; rw [pz_u, if_neg h1]
  | succ k ih => unfold zGo; rw [pz_u, if_neg h1, pz_u, if_neg h2]; exact ih
theorem zGo_2 (σ : gs_S) (V : Nat → Int64) (j : Nat) : ∀ k, (zGo σ V j k).2 = σ.2 := by
  intro k
  induction k with
  | zero => rfl
  | succ k ih => unfold zGo; rw [pz_u2, pz_u2]; exact ih
theorem zGo_n (σ : gs_S) (V : Nat → Int64) (j : Nat) : ∀ k, (zGo σ V j k).1 8 1 = nI k := by
  intro k
  cases k with
  | zero => unfold zGo; rw [pz_u, if_pos rfl, pz_upd, if_pos rfl]; rfl
  | succ k => unfold zGo; rw [pz_u, if_pos rfl, pz_upd, if_pos rfl]
theorem zGo_w (σ : gs_S) (V : Nat → Int64) (j : Nat) : ∀ k i, i < k → (zGo σ V j k).1 9 i = (V (j + i)).toInt32 := by
  intro k
  induction k with
  | zero => intro i h; omega
  | succ k ih =>
    intro i h
    unfold zGo
    rw [pz_u, if_neg (by decide), pz_u, if_pos rfl, pz_upd]
    by_cases e : i = k
    · rw [if_pos e, e]
    · rw [if_neg e]; exact ih i (by omega)
def zGr (τ : gs_S) (b n : Nat) : Nat → gs_S
  | 0 => gs_u τ 63 6 (nI n)
  | k + 1 => gs_u (zGr τ b n k) 68 k (τ.2 83 (b + k)).toInt32
theorem zGr_1 (σ : gs_S) (b n c : Nat) (h1 : ¬ c = 63) (h2 : ¬ c = 68) : ∀ k, (zGr σ b n k).1 c = σ.1 c := by
  intro k
  induction k with
  | zero => unfold zGr; rw [pz_u, if_neg h1]
  | succ k ih => unfold zGr; rw [pz_u, if_neg h2]; exact ih
theorem zGr_2 (σ : gs_S) (b n : Nat) : ∀ k, (zGr σ b n k).2 = σ.2 := by
  intro k
  induction k with
  | zero => rfl
  | succ k ih => unfold zGr; rw [pz_u2]; exact ih
theorem zGr_63 (σ : gs_S) (b n : Nat) : ∀ k, (zGr σ b n k).1 63 = upd (σ.1 63) 6 (nI n) := by
  intro k
  induction k with
  | zero => unfold zGr; rw [pz_u, if_pos rfl]
  | succ k ih => unfold zGr; rw [pz_u, if_neg (by decide)]; exact ih
theorem zGr_w (σ : gs_S) (b n : Nat) : ∀ k i, i < k → (zGr σ b n k).1 68 i = (σ.2 83 (b + i)).toInt32 := by
  intro k
  induction k with
  | zero => intro i h; omega
  | succ k ih =>
    intro i h
    unfold zGr
    rw [pz_u, if_pos rfl, pz_upd]
    by_cases e : i = k
    · rw [if_pos e, e]
    · rw [if_neg e]; exact ih i (by omega)
/-- only the way differs: the relation stays if the way's does -/
theorem inv_way {σ τ : gs_S} (h : inv σ) (hc : ∀ c, ¬ c = 8 → ¬ c = 9 → ¬ c = 63 → ¬ c = 68 → τ.1 c = σ.1 c) (h6 : ∀ i, ¬ i = 6 → τ.1 63 i = σ.1 63 i) (h2 : τ.2 = σ.2) (hw : iv_way (τ.1 8 1) (τ.1 63 6) (τ.1 9) (τ.1 68)) : inv τ := by
  obtain ⟨a1, a2, a3, a4, a5, a6, a7, a8, b1, b2, b3, b4⟩ := h
  refine ⟨?_, ?_, hw, ?_, ?_, ?_, ?_, ?_, ?_, ?_, ?_, ?_⟩
  · rw [hc 3 (by omega) (by omega) (by omega) (by omega), hc 64 (by omega) (by omega) (by omega) (by omega)]; exact a1
  · rw [hc 4 (by omega) (by omega) (by omega) (by omega), h6 4 (by omega), hc 5 (by omega) (by omega) (by omega) (by omega), hc 6 (by omega) (by omega) (by omega) (by omega), hc 7 (by omega) (by omega) (by omega) (by omega), hc 65 (by omega) (by omega) (by omega) (by omega), hc 66 (by omega) (by omega) (by omega) (by omega), hc 67 (by omega) (by omega) (by omega) (by omega)]; exact a2
  · rw [hc 1 (by omega) (by omega) (by omega) (by omega), hc 69 (by omega) (by omega) (by omega) (by omega)]; exact a4
  · rw [hc 1 (by omega) (by omega) (by omega) (by omega), hc 69 (by omega) (by omega) (by omega) (by omega)]; exact a5
  · rw [hc 10 (by omega) (by omega) (by omega) (by omega), h6 10 (by omega), hc 11 (by omega) (by omega) (by omega) (by omega), hc 70 (by omega) (by omega) (by omega) (by omega), hc 12 (by omega) (by omega) (by omega) (by omega), hc 13 (by omega) (by omega) (by omega) (by omega), hc 14 (by omega) (by omega) (by omega) (by omega), hc 71 (by omega) (by omega) (by omega) (by omega)]; exact a6
  · rw [hc 29 (by omega) (by omega) (by omega) (by omega), h6 12 (by omega), hc 30 (by omega) (by omega) (by omega) (by omega), hc 72 (by omega) (by omega) (by omega) (by omega)]; exact a7
  · unfold iv_kept
    rw [hc 0 (by omega) (by omega) (by omega) (by omega), h6 22 (by omega), hc 17 (by omega) (by omega) (by omega) (by omega), hc 79 (by omega) (by omega) (by omega) (by omega), hc 18 (by omega) (by omega) (by omega) (by omega), hc 80 (by omega) (by omega) (by omega) (by omega), hc 19 (by omega) (by omega) (by omega) (by omega), hc 20 (by omega) (by omega) (by omega) (by omega), hc 21 (by omega) (by omega) (by omega) (by omega), hc 22 (by omega) (by omega) (by omega) (by omega), hc 23 (by omega) (by omega) (by omega) (by omega), hc 15 (by omega) (by omega) (by omega) (by omega), hc 24 (by omega) (by omega) (by omega) (by omega), hc 25 (by omega) (by omega) (by omega) (by omega), hc 26 (by omega) (by omega) (by omega) (by omega), hc 27 (by omega) (by omega) (by omega) (by omega), hc 28 (by omega) (by omega) (by omega) (by omega)]; exact a8
  · rw [hc 47 (by omega) (by omega) (by omega) (by omega), hc 81 (by omega) (by omega) (by omega) (by omega), hc 82 (by omega) (by omega) (by omega) (by omega), hc 49 (by omega) (by omega) (by omega) (by omega), h2]; exact b1
  · rw [hc 51 (by omega) (by omega) (by omega) (by omega), hc 81 (by omega) (by omega) (by omega) (by omega), hc 82 (by omega) (by omega) (by omega) (by omega), hc 53 (by omega) (by omega) (by omega) (by omega), h2]; exact b2
  · rw [hc 55 (by omega) (by omega) (by omega) (by omega), hc 81 (by omega) (by omega) (by omega) (by omega), hc 82 (by omega) (by omega) (by omega) (by omega), hc 57 (by omega) (by omega) (by omega) (by omega), h2]; exact b3
  · rw [hc 59 (by omega) (by omega) (by omega) (by omega), hc 81 (by omega) (by omega) (by omega) (by omega), hc 82 (by omega) (by omega) (by omega) (by omega), hc 61 (by omega) (by omega) (by omega) (by omega), h2]; exact b4
theorem op_go (σ : gs_S) (hI : inv σ) (a1 : Int32) (a2 : Int32) (a3 : Int32) (a4 : Int32) : ∃ (r : Int32) (σ1 : gs_S) (σ2 : gs_S), pX10_go a1 a2 a3 a4 σ = some (r, σ1) ∧ pX11_go a1 a2 a3 a4 σ1 = some (r, σ2) ∧ inv σ2 := by
  unfold pX10_go pX11_go pX10_isSheet
  by_cases h1 : iv_in a1 0 3
  rotate_left
  · exact ⟨-1, σ, σ, pz_if_f (pz_w10 a1 0 3) h1 _ _, pz_if_f (pz_x11 a1 0 3) h1 _ _, hI⟩
  rw [pz_if_t (pz_w10 a1 0 3) h1]
  by_cases h2 : iv_in a2 1 2
  rotate_left
  · exact ⟨-1, σ, σ, pz_if_f (pz_w10 a2 1 2) h2 _ _, by rw [pz_if_t (pz_x11 a1 0 3) h1, pz_if_f (pz_x11 a2 1 2) h2], hI⟩
  rw [pz_if_t (pz_w10 a2 1 2) h2]
  by_cases h3 : iv_in a4 1 24
  rotate_left
  · exact ⟨-1, σ, σ, pz_if_f (pz_w10 a4 1 24) h3 _ _, by rw [pz_if_t (pz_x11 a1 0 3) h1, pz_if_t (pz_x11 a2 1 2) h2, pz_if_f (pz_x11 a4 1 24) h3], hI⟩
  rw [pz_if_t (pz_w10 a4 1 24) h3]
  obtain ⟨s, hs, rfl⟩ := pz_nat 3 h1 (by decide)
  obtain ⟨n, hn, rfl⟩ := pz_nat 24 (x := a4) ⟨by have := h3.1; omega, h3.2⟩ (by decide)
  have hs : s < 4 := by omega
  have g := inv_sh hI s hs
  obtain ⟨e1, e2, m, hm, e3, e4, e5, e6⟩ := id g
  have h0 : iv_in a2 0 2 := ⟨by have := h2.1; omega, h2.2⟩
  simp only [pz_inN hs (by decide), nI_clamp (show s < 2 ^ 31 by omega), Nat.reduceAdd, gv_let, pz_ref]
  by_cases hz : zR (σ.1 (47 + 4 * s) 3) (σ.1 (47 + 4 * s) 4) a2 a3 (nI n) = 0
  rotate_left
  · refine ⟨_, σ, σ, if_neg hz, ?_, hI⟩
    rw [pz_if_t (pz_x11 (nI s) 0 3) h1, pz_if_t (pz_x11 a2 1 2) h2, pz_if_t (pz_x11 (nI n) 1 24) h3, pz_lacks hs σ a2 a3 (nI n) h0 g]
    simp only [gv_bind]
    rw [if_neg (by rcases zR_neg (σ.1 (47 + 4 * s) 3) (σ.1 (47 + 4 * s) 4) a2 a3 (nI n) with q | q; exact absurd q hz; exact q)]
  have hz' := hz
  rw [e3] at hz'
  obtain ⟨q1, q2, q3⟩ := zR_ok hz'
  obtain ⟨j, rfl, hj⟩ := pz_cnt (n := n) hm hn q2 q3
  rw [if_pos hz]
  obtain ⟨V, hV⟩ : ∃ V : Nat → Int64, V = fun k => σ.2 83 (24 * s + k) := ⟨_, rfl⟩
  have val : ∀ (τ : gs_S), τ.1 (47 + 4 * s) = σ.1 (47 + 4 * s) → τ.1 (49 + 4 * s) = σ.1 (49 + 4 * s) → τ.2 = σ.2 → ∀ k, k < m → pX5_value (47 + 4 * s) (nI k) τ = some (V k) := by
    intro τ t1 t2 t3 k hk
    unfold pX5_value
    rw [t1, show 47 + 4 * s + 2 = 49 + 4 * s by omega, show 47 + 4 * s + 3 = 50 + 4 * s by omega, t2, t3, pz_inN (by omega) (by decide), pz_inN (by omega) (by decide), nI_clamp (by omega), hV]
    by_cases c : σ.1 (47 + 4 * s) 3 = 1
    · rw [if_pos c, e5 c k hk]
    · rw [if_neg c, e6 (by
        rcases e2 with q | q | q | q
        · rw [q1] at q; rw [q] at h2; exact absurd h2.1 (by decide)
        · rw [q1] at q; rw [q] at h2; exact absurd h2.1 (by decide)
        · exact absurd q c
        · exact q) k hk]
  have hw := gv_findh (fun q : Int32 => pX5_isWay_L2 (nI j) (nI n) (47 + 4 * s) σ q) (fun k => nI (j + k)) (zBad V j) (fun k => .inr (0 : Int32)) n gv_N (gv_N_lt (by omega)) (.inl (nI (j + n))) ?_ ?_ ?_
  rotate_left
  · intro k hk hp hb
    show pX5_isWay_L2 (nI j) (nI n) (47 + 4 * s) σ (nI (j + k)) = _
    unfold pX5_isWay_L2
    have b1 : zSq (V (j + k)) := Classical.byContradiction (fun q => hb (Or.inl q))
    rw [nI_add, if_neg (nI_ge (show j + k < j + n by omega) (by omega)), val σ rfl rfl rfl (j + k) (by omega)]
    simp only [gv_bind, gv_let, nI_1]
    rw [pz_if_t (pz_sqL10 _) b1]
    by_cases k0 : k = 0
    · subst k0
      rw [if_pos (nI_le (by omega) (by omega))]
    · obtain ⟨i, rfl⟩ : ∃ i, k = i + 1 := ⟨k - 1, by omega⟩
      have b0 : zSq (V (j + i)) := Classical.byContradiction (fun q => hp i (by omega) (Or.inl q))
      have b2 : ¬ zNx (V (j + i)).toInt32 (V (j + (i + 1))).toInt32 4 = 0 := fun q => hb (Or.inr ⟨by omega, q⟩)
      rw [if_neg (nI_ge (show j < j + (i + 1) by omega) (by omega)), show j + (i + 1) = (j + i) + 1 by omega, nI_pred, val σ rfl rfl rfl (j + i) (by omega)]
      dsimp only
      rw [pz_next (zSq_in b0) (zSq_in (show zSq (V (j + i + 1)) from b1)), if_neg (show ¬ zNx (V (j + i)).toInt32 (V (j + i + 1)).toInt32 4 = 0 from b2)]; rfl
  · intro k hk hp hb
    show pX5_isWay_L2 (nI j) (nI n) (47 + 4 * s) σ (nI (j + k)) = _
    unfold pX5_isWay_L2
    rw [nI_add, if_neg (nI_ge (show j + k < j + n by omega) (by omega)), val σ rfl rfl rfl (j + k) (by omega)]
    simp only [gv_bind, gv_let, nI_1]
    by_cases b1 : zSq (V (j + k))
    · rw [pz_if_t (pz_sqL10 _) b1]
      rcases hb with hb | ⟨k0, hb⟩
      · exact absurd b1 hb
      · obtain ⟨i, rfl⟩ : ∃ i, k = i + 1 := ⟨k - 1, by omega⟩
        have b0 : zSq (V (j + i)) := Classical.byContradiction (fun q => hp i (by omega) (Or.inl q))
        rw [if_neg (nI_ge (show j < j + (i + 1) by omega) (by omega)), show j + (i + 1) = (j + i) + 1 by omega, nI_pred, val σ rfl rfl rfl (j + i) (by omega)]
        dsimp only
        rw [pz_next (zSq_in b0) (zSq_in (show zSq (V (j + i + 1)) from b1)), if_pos (show zNx (V (j + i)).toInt32 (V (j + i + 1)).toInt32 4 = 0 from hb)]
    · rw [pz_if_f (pz_sqL10 _) b1]
  · show pX5_isWay_L2 (nI j) (nI n) (47 + 4 * s) σ (nI (j + n)) = _
    unfold pX5_isWay_L2
    rw [nI_add, if_pos (nI_le (Nat.le_refl _) (by omega))]
  have hx : ∀ τ : gs_S, τ.2 = σ.2 → (∃ k, k < n ∧ zBad V j k ∧ (∀ i, i < k → ¬ zBad V j i) ∧ gv_loop (fun q : Int32 => pX11_go_L69 (nI n) (nI (24 * s + j)) τ q) gv_N (0 : Int32) = some (.inr ((-2 : Int32), τ))) ∨ ((∀ k, k < n → ¬ zBad V j k) ∧ gv_loop (fun q : Int32 => pX11_go_L69 (nI n) (nI (24 * s + j)) τ q) gv_N (0 : Int32) = some (.inl (nI n))) := by
    intro τ t2
    refine gv_findh (fun q : Int32 => pX11_go_L69 (nI n) (nI (24 * s + j)) τ q) (fun k => nI k) (zBad V j) (fun k => .inr ((-2 : Int32), τ)) n gv_N (gv_N_lt (by omega)) (.inl (nI n)) ?_ ?_ ?_
    · intro k hk hp hb
      show pX11_go_L69 (nI n) (nI (24 * s + j)) τ (nI k) = _
      unfold pX11_go_L69
      have b1 : zSq (V (j + k)) := Classical.byContradiction (fun q => hb (Or.inl q))
      have v1 : τ.2 83 (24 * s + j + k) = V (j + k) := by rw [t2, hV, Nat.add_assoc]
      rw [if_neg (nI_ge hk (by omega)), nI_add, pz_inN (show 24 * s + j + k < 96 by omega) (by decide), nI_clamp (show 24 * s + j + k < 2 ^ 31 by omega), v1, pz_if_t (pz_sqL11 _) b1]
      by_cases k0 : k = 0
      · subst k0
        rw [if_pos (by decide)]; simp only [gv_let, nI_1]
      · obtain ⟨i, rfl⟩ : ∃ i, k = i + 1 := ⟨k - 1, by omega⟩
        have b2 : ¬ zNx (V (j + i)).toInt32 (V (j + (i + 1))).toInt32 4 = 0 := fun q => hb (Or.inr ⟨by omega, q⟩)
        have v2 : τ.2 83 (24 * s + j + i) = V (j + i) := by rw [t2, hV, Nat.add_assoc]
        rw [if_neg (nI_nle (by omega) (by omega)), show 24 * s + j + (i + 1) = (24 * s + j + i) + 1 by omega, nI_pred, pz_inN (show 24 * s + j + i < 96 by omega) (by decide), nI_clamp (show 24 * s + j + i < 2 ^ 31 by omega), v2, pz_inN (show 24 * s + j + i + 1 < 96 by omega) (by decide), pz_xnext]
        simp only [gv_bind, gv_let, nI_1]
        rw [if_neg b2]
    · intro k hk hp hb
      show pX11_go_L69 (nI n) (nI (24 * s + j)) τ (nI k) = _
      unfold pX11_go_L69
      have v1 : τ.2 83 (24 * s + j + k) = V (j + k) := by rw [t2, hV, Nat.add_assoc]
      rw [if_neg (nI_ge hk (by omega)), nI_add, pz_inN (show 24 * s + j + k < 96 by omega) (by decide), nI_clamp (show 24 * s + j + k < 2 ^ 31 by omega), v1]
      by_cases b1 : zSq (V (j + k))
      · rw [pz_if_t (pz_sqL11 _) b1]
        rcases hb with hb | ⟨k0, hb⟩
        · exact absurd b1 hb
        · obtain ⟨i, rfl⟩ : ∃ i, k = i + 1 := ⟨k - 1, by omega⟩
          have v2 : τ.2 83 (24 * s + j + i) = V (j + i) := by rw [t2, hV, Nat.add_assoc]
          rw [if_neg (nI_nle (by omega) (by omega)), show 24 * s + j + (i + 1) = (24 * s + j + i) + 1 by omega, nI_pred, pz_inN (show 24 * s + j + i < 96 by omega) (by decide), nI_clamp (show 24 * s + j + i < 2 ^ 31 by omega), v2, pz_inN (show 24 * s + j + i + 1 < 96 by omega) (by decide), pz_xnext]
          simp only [gv_bind, gv_let, nI_1]
          rw [if_pos (by exact hb)]
      · rw [pz_if_f (pz_sqL11 _) b1]
    · show pX11_go_L69 (nI n) (nI (24 * s + j)) τ (nI n) = _
      unfold pX11_go_L69
      rw [if_pos (nI_le (Nat.le_refl _) (by omega))]
  have ei : (24 : Int32) * nI s + nI j = nI (24 * s + j) := by rw [show (24 : Int32) * nI s = nI (24 * s) from nI_mul 24 s, nI_add]
  have lk : ∀ τ : gs_S, τ.1 81 = σ.1 81 → τ.1 82 = σ.1 82 → pX11_lacksRow (nI s) a2 (nI j) (nI n) τ = some 0 := by
    intro τ t1 t2
    have := pz_lacks hs σ a2 (nI j) (nI n) h0 g
    rw [hz] at this
    unfold pX11_lacksRow at this ⊢
    rw [t1, t2]; exact this
  rcases hw with ⟨k, k1, k2, k3, k4⟩ | ⟨k1, k4⟩
  · have hw2 : pX5_isWay (47 + 4 * s) (nI j) (nI n) σ = some 0 := by
      unfold pX5_isWay
      have h9 : gv_loop (fun q : Int32 => pX5_isWay_L2 (nI j) (nI n) (47 + 4 * s) σ q) gv_N (nI j) = some (.inr (0 : Int32)) := k4
      rw [h9]; rfl
    refine ⟨-2, σ, σ, ?_, ?_, hI⟩
    · rw [hw2]; simp only [gv_bind]; rw [if_pos trivial]
    · rw [pz_if_t (pz_x11 (nI s) 0 3) h1, pz_if_t (pz_x11 a2 1 2) h2, pz_if_t (pz_x11 (nI n) 1 24) h3, lk σ rfl rfl]
      simp only [gv_bind]
      rw [if_pos (by decide), ei]
      rcases hx σ rfl with ⟨i, i1, i2, i3, i4⟩ | ⟨i1, -⟩
      · rw [i4]; rfl
      · exact absurd k2 (i1 k k1)
  · have hw2 : pX5_isWay (47 + 4 * s) (nI j) (nI n) σ = some 1 := by
      unfold pX5_isWay
      have h9 : gv_loop (fun q : Int32 => pX5_isWay_L2 (nI j) (nI n) (47 + 4 * s) σ q) gv_N (nI j) = some (.inl (nI (j + n))) := k4
      rw [h9]; rfl
    have hl := gv_for (fun q : Int32 × gs_S => pX10_go_L86 (nI n) (nI s) (nI j) q.1 q.2) (fun k => (nI k, zGo σ V j k)) n gv_N (gv_N_lt (by omega)) (nI n, zGo σ V j n) ?_ ?_
    rotate_left
    · intro k hk
      dsimp only
      unfold pX10_go_L86
      rw [if_neg (nI_ge hk (by omega)), nI_add, nI_clamp (by omega), show 46 + 1 + 4 * s = 47 + 4 * s by omega, val _ (zGo_1 _ _ _ _ (by omega) (by omega) _) (zGo_1 _ _ _ _ (by omega) (by omega) _) (zGo_2 _ _ _ _) (j + k) (by omega)]
      simp only [gv_bind]
      rw [pz_wadd (show k < 24 by omega) _ _ (zGo_n σ V j k)]
      simp only [gv_let, nI_1]
      rfl
    · dsimp only
      unfold pX10_go_L86
      rw [if_pos (nI_le (Nat.le_refl _) (by omega))]
    have hl2 : gv_loop (fun q : Int32 × gs_S => pX10_go_L86 (nI n) (nI s) (nI j) q.1 q.2) gv_N ((0 : Int32), gs_u σ 8 1 0) = some (nI n, zGo σ V j n) := hl
    obtain ⟨τ, eτ⟩ : ∃ τ, τ = zGo σ V j n := ⟨_, rfl⟩
    have t2 : τ.2 = σ.2 := by rw [eτ, zGo_2]
    have t1 : ∀ c, ¬ c = 8 → ¬ c = 9 → τ.1 c = σ.1 c := fun c c1 c2 => by rw [eτ, zGo_1 _ _ _ _ c1 c2]
    have hr := gv_for (fun q : Int32 × gs_S => pX11_go_L145 (nI n) (nI (24 * s + j)) q.1 q.2) (fun k => (nI k, zGr τ (24 * s + j) n k)) n gv_N (gv_N_lt (by omega)) (nI n, zGr τ (24 * s + j) n n) ?_ ?_
    rotate_left
    · intro k hk
      dsimp only
      unfold pX11_go_L145
      rw [if_neg (nI_ge hk (by omega)), nI_add, pz_inN (show 24 * s + j + k < 96 by omega) (by decide), nI_clamp (show 24 * s + j + k < 2 ^ 31 by omega), pz_inN (show k < 24 by omega) (by decide), nI_clamp (show k < 2 ^ 31 by omega), zGr_2]
      simp only [gv_let, nI_1]
      rfl
    · dsimp only
      unfold pX11_go_L145
      rw [if_pos (nI_le (Nat.le_refl _) (by omega))]
    have hr2 : gv_loop (fun q : Int32 × gs_S => pX11_go_L145 (nI n) (nI (24 * s + j)) q.1 q.2) gv_N ((0 : Int32), gs_u τ 63 6 (nI n)) = some (nI n, zGr τ (24 * s + j) n n) := hr
    refine ⟨nI n, τ, zGr τ (24 * s + j) n n, ?_, ?_, ?_⟩
    · rw [hw2]; simp only [gv_bind]; rw [if_neg (by decide), hl2, eτ]
    · rw [pz_if_t (pz_x11 (nI s) 0 3) h1, pz_if_t (pz_x11 a2 1 2) h2, pz_if_t (pz_x11 (nI n) 1 24) h3, lk τ (t1 81 (by omega) (by omega)) (t1 82 (by omega) (by omega))]
      simp only [gv_bind]
      rw [if_pos (by decide), ei]
      rcases hx τ t2 with ⟨i, i1, i2, i3, i4⟩ | ⟨i1, i4⟩
      · exact absurd i2 (k1 i i1)
      · rw [i4]
        simp only [gv_bret]
        rw [hr2]
    · refine inv_way hI (fun c c1 c2 c3 c4 => by rw [zGr_1 _ _ _ _ c3 c4, t1 c c1 c2]) (fun i hi => by rw [zGr_63, pz_upd, if_neg hi, t1 63 (by omega) (by omega)]) (by rw [zGr_2, t2]) ⟨n, hn, ?_, ?_, fun k hk => ?_⟩
      · rw [zGr_1 _ _ _ _ (by omega) (by omega), eτ, zGo_n]
      · rw [zGr_63, pz_upd, if_pos rfl]
      · rw [zGr_1 _ _ _ _ (by omega) (by omega), zGr_w _ _ _ _ _ hk, t2, eτ, zGo_w _ _ _ _ _ hk, hV]
        dsimp only
        rw [Nat.add_assoc]
        refine ⟨rfl, zSq_in (Classical.byContradiction (fun q => k1 k hk (Or.inl ?_)))⟩
        rw [hV]; exact q
