/-! PURE, 43: sleigh, step; squares that lie beside each other -/
def zNx (a b : Int32) : Nat → Int32
  | 0 => 0
  | k + 1 => if zNx a b k = 0 then (if pX11_nextTo a (nI k) = b then 1 else 0) else 1
theorem zNx_01 (a b : Int32) : ∀ k, zNx a b k = 0 ∨ zNx a b k = 1 := by
  intro k
  cases k with
  | zero => exact Or.inl rfl
  | succ k =>
    unfold zNx
    by_cases h : zNx a b k = 0
    · rw [if_pos h]
      by_cases h2 : pX11_nextTo a (nI k) = b
      · rw [if_pos h2]; exact Or.inr rfl
      · rw [if_neg h2]; exact Or.inl rfl
    · rw [if_neg h]; exact Or.inr rfl
theorem pz_xnext (a b : Int32) : pX11_areNext a b = some (zNx a b 4) := by
  unfold pX11_areNext
  have h := gv_for (fun q : Int32 × Int32 => pX11_areNext_L4 a b q.1 q.2) (fun k => (zNx a b k, nI k)) 4 gv_N (gv_N_lt (by decide)) (zNx a b 4, nI 4) ?_ ?_
  · have h2 : gv_loop (fun q : Int32 × Int32 => pX11_areNext_L4 a b q.1 q.2) gv_N ((0 : Int32), (0 : Int32)) = some (zNx a b 4, nI 4) := h
    rw [h2]
    simp only [gv_bind, gv_let, gv_bo]
    rw [if_pos (zNx_01 a b 4)]
  · intro k hk
    show pX11_areNext_L4 a b (zNx a b k) (nI k) = some (.inl (zNx a b (k + 1), nI (k + 1)))
    unfold pX11_areNext_L4 pX11_areNext_J22
    rw [if_neg (show ¬ (4 : Int32) ≤ nI k from nI_ge (b := 4) hk (by decide))]
    simp only [gv_let, nI_1]
    show _ = some (Sum.inl ((if zNx a b k = 0 then (if pX11_nextTo a (nI k) = b then 1 else 0) else 1), nI (k + 1)))
    by_cases h : zNx a b k = 0
    · rw [if_pos h, if_pos h]
      by_cases h2 : pX11_nextTo a (nI k) = b
      · rw [if_pos h2, if_pos h2]
      · rw [if_neg h2, if_neg h2]
    · rw [if_neg h, if_neg h]
  · show pX11_areNext_L4 a b (zNx a b 4) (nI 4) = _
    unfold pX11_areNext_L4
    rw [if_pos (show (4 : Int32) ≤ nI 4 by decide)]
theorem pz_next_dec : ∀ a, a < 64 → ∀ b, b < 64 → pX10_areNext (nI a) (nI b) = zNx (nI a) (nI b) 4 := by decide +kernel
theorem pz_next {a b : Int32} (ha : iv_in a 0 63) (hb : iv_in b 0 63) : pX10_areNext a b = zNx a b 4 := by
  obtain ⟨n, hn, rfl⟩ := pz_nat 63 ha (by decide)
  obtain ⟨k, hk, rfl⟩ := pz_nat 63 hb (by decide)
  exact pz_next_dec n (by omega) k (by omega)
theorem op_sleigh (σ : gs_S) (hI : inv σ) (a1 : Int32) (a2 : Int32) (a3 : Int32) : ∃ (r : Int32) (σ1 : gs_S) (σ2 : gs_S), pX10_sleigh a1 a2 a3 σ = some (r, σ1) ∧ pX11_sleigh a1 a2 a3 σ1 = some (r, σ2) ∧ inv σ2 := by
  unfold pX10_sleigh pX11_sleigh pX10_isLoad pX10_isPace
  by_cases h1 : iv_in a1 1 99
  rotate_left
  · exact ⟨-1, σ, σ, pz_if_f (pz_w10 a1 1 99) h1 _ _, pz_if_f (pz_x11 a1 1 99) h1 _ _, hI⟩
  rw [pz_if_t (pz_w10 a1 1 99) h1]
  by_cases h2 : iv_in a2 1 9
  rotate_left
  · exact ⟨-1, σ, σ, pz_if_f (pz_w10 a2 1 9) h2 _ _, by rw [pz_if_t (pz_x11 a1 1 99) h1, pz_if_f (pz_x11 a2 1 9) h2], hI⟩
  rw [pz_if_t (pz_w10 a2 1 9) h2]
  by_cases h3 : iv_in a3 0 99
  rotate_left
  · exact ⟨-1, σ, σ, pz_if_f (pz_w10 a3 0 99) h3 _ _, by rw [pz_if_t (pz_x11 a1 1 99) h1, pz_if_t (pz_x11 a2 1 9) h2, pz_if_f (pz_x11 a3 0 99) h3], hI⟩
  rw [pz_if_t (pz_w10 a3 0 99) h3]
  obtain ⟨i1, ⟨m, hm, e1, e2, i2⟩, i3⟩ := id hI
  by_cases hf : m = 6
  · subst hf
    refine ⟨-3, σ, σ, ?_, ?_, hI⟩
    · rw [e1, if_neg (by decide)]
    · rw [pz_if_t (pz_x11 a1 1 99) h1, pz_if_t (pz_x11 a2 1 9) h2, pz_if_t (pz_x11 a3 0 99) h3, e2, if_pos (show nI 6 = (6 : Int32) from rfl)]
  · have hm : m < 6 := by omega
    obtain ⟨τ, eτ⟩ : ∃ τ, τ = gs_u (gs_u (gs_u (gs_u σ 5 m a1) 6 m a2) 7 m a3) 4 3 (nI (m + 1)) := ⟨_, rfl⟩
    have hA : pX8_add 4 a1 a2 a3 σ = some τ := by
      unfold pX8_add
      simp only [gv_let, pz_u, e1, pz_inN hm (by decide), nI_clamp (show m < 2 ^ 31 by omega), nI_1, Nat.reduceEqDiff, Nat.reduceAdd, reduceIte]
      rw [eτ]
    have t1 : τ.1 63 4 = nI m := by rw [eτ]; exact e2
    refine ⟨nI m, τ, gs_u (gs_u (gs_u (gs_u τ 65 m a1) 66 m a2) 67 m a3) 63 4 (nI (m + 1)), ?_, ?_, ?_⟩
    · rw [e1, if_pos (show nI m < (6 : Int32) from nI_lt (b := 6) hm (by decide)), hA]
      show some (τ.1 4 3 - 1, τ) = _
      have : τ.1 4 3 = nI (m + 1) := by rw [eτ]; rfl
      rw [this, nI_pred]
    · rw [pz_if_t (pz_x11 a1 1 99) h1, pz_if_t (pz_x11 a2 1 9) h2, pz_if_t (pz_x11 a3 0 99) h3, t1, if_neg (pz_ne 6 6 rfl (by omega) (by decide) hf)]
      simp only [gv_let, pz_u, t1, Nat.reduceEqDiff, reduceIte, nI_1, pz_inN hm (by decide), nI_clamp (show m < 2 ^ 31 by omega), pz_upd, nI_pred]
    · subst eτ
      refine ⟨i1, ⟨m + 1, by omega, rfl, rfl, ?_⟩, i3⟩
      intro k hk
      show upd (σ.1 5) m a1 k = upd (σ.1 65) m a1 k ∧ upd (σ.1 6) m a2 k = upd (σ.1 66) m a2 k ∧ upd (σ.1 7) m a3 k = upd (σ.1 67) m a3 k ∧ iv_in (upd (σ.1 5) m a1 k) 1 99 ∧ iv_in (upd (σ.1 6) m a2 k) 1 9 ∧ iv_in (upd (σ.1 7) m a3 k) 0 99
      simp only [pz_upd]
      by_cases e : k = m
      · simp only [if_pos e]
        exact ⟨trivial, trivial, trivial, h1, h2, h3⟩
      · simp only [if_neg e]
        exact i2 k (by omega)
theorem pz_wadd {m : Nat} (hm : m < 24) (a : Int32) (σ : gs_S) (e1 : σ.1 8 1 = nI m) : pX9_add a σ = some (gs_u (gs_u σ 9 m a) 8 1 (nI (m + 1))) := by
  unfold pX9_add
  simp only [gv_let, pz_u, e1, pz_inN hm (by decide), nI_clamp (show m < 2 ^ 31 by omega), nI_1, Nat.reduceEqDiff, reduceIte]
theorem op_step_core (σ : gs_S) (hI : inv σ) (a1 : Int32) (h1 : iv_in a1 0 63) : ∃ (r : Int32) (σ1 : gs_S) (σ2 : gs_S), pX10_step_J46 σ a1 = some (r, σ1) ∧ pX11_step_J38 σ1 a1 = some (r, σ2) ∧ inv σ2 ∧ σ1.1 63 6 = σ.1 63 6 ∧ σ1.1 68 = σ.1 68 := by
  obtain ⟨i1, i2, ⟨m, hm, e1, e2, i3⟩, i4⟩ := id hI
  unfold pX10_step_J46 pX11_step_J38
  by_cases hf : m = 24
  · subst hf
    refine ⟨-3, σ, σ, ?_, ?_, hI, rfl, rfl⟩
    · rw [e1, if_neg (by decide)]
    · rw [e2, if_pos (show nI 24 = (24 : Int32) from rfl)]
  · have hm : m < 24 := by omega
    obtain ⟨τ, eτ⟩ : ∃ τ, τ = gs_u (gs_u σ 9 m a1) 8 1 (nI (m + 1)) := ⟨_, rfl⟩
    have t1 : τ.1 63 6 = nI m := by rw [eτ]; exact e2
    refine ⟨nI (m + 1), τ, gs_u (gs_u τ 68 m a1) 63 6 (nI (m + 1)), ?_, ?_, ?_, by rw [eτ]; rfl, by rw [eτ]; rfl⟩
    · rw [e1, if_pos (show nI m < (24 : Int32) from nI_lt (b := 24) hm (by decide)), pz_wadd hm a1 σ e1, ← eτ]
      show some (τ.1 8 1, τ) = _
      rw [eτ]; rfl
    · rw [t1, if_neg (pz_ne 24 24 rfl (by omega) (by decide) hf)]
      simp only [gv_let, pz_u, t1, Nat.reduceEqDiff, reduceIte, nI_1, pz_inN hm (by decide), nI_clamp (show m < 2 ^ 31 by omega), pz_upd]
    · subst eτ
      refine ⟨i1, i2, ⟨m + 1, by omega, rfl, rfl, ?_⟩, i4⟩
      intro k hk
      show upd (σ.1 9) m a1 k = upd (σ.1 68) m a1 k ∧ iv_in (upd (σ.1 9) m a1 k) 0 63
      simp only [pz_upd]
      by_cases e : k = m
      · simp only [if_pos e]; exact ⟨trivial, h1⟩
      · simp only [if_neg e]; exact i3 k (by omega)
theorem op_step (σ : gs_S) (hI : inv σ) (a1 : Int32) : ∃ (r : Int32) (σ1 : gs_S) (σ2 : gs_S), pX10_step a1 σ = some (r, σ1) ∧ pX11_step a1 σ1 = some (r, σ2) ∧ inv σ2 := by
  unfold pX10_step pX11_step
  by_cases h1 : iv_in a1 0 63
  rotate_left
  · exact ⟨-1, σ, σ, pz_if_f (pz_sq10 a1) h1 _ _, pz_if_f (pz_sq11 a1) h1 _ _, hI⟩
  rw [pz_if_t (pz_sq10 a1) h1]
  obtain ⟨r, σ1, σ2, c1, c2, c3, c4, c5⟩ := op_step_core σ hI a1 h1
  obtain ⟨i1, i2, ⟨m, hm, e1, e2, i3⟩, i4⟩ := id hI
  by_cases h0 : m = 0
  · subst h0
    refine ⟨r, σ1, σ2, ?_, ?_, c3⟩
    · rw [e1, if_pos (by decide)]; exact c1
    · rw [pz_if_t (pz_sq11 a1) h1, c4, e2, if_pos (by decide)]; exact c2
  · obtain ⟨j, rfl⟩ : ∃ j, m = j + 1 := ⟨m - 1, by omega⟩
    obtain ⟨w1, w2⟩ := i3 j (by omega)
    have hp : ¬ nI (j + 1) ≤ 0 := nI_nle (by omega) (by omega)
    rw [e1, if_neg hp, nI_pred, pz_inN (show j < 24 by omega) (by decide), nI_clamp (by omega), pz_next w2 h1]
    by_cases hz : zNx (σ.1 9 j) a1 4 = 0
    · refine ⟨-2, σ, σ, if_pos hz, ?_, hI⟩
      rw [pz_if_t (pz_sq11 a1) h1, e2, if_neg hp, nI_pred, pz_inN (show j < 24 by omega) (by decide), nI_clamp (by omega), ← w1, pz_xnext]
      simp only [gv_bind]
      rw [if_pos hz]
    · refine ⟨r, σ1, σ2, by rw [if_neg hz]; exact c1, ?_, c3⟩
      rw [pz_if_t (pz_sq11 a1) h1, c4, c5, e2, if_neg hp, nI_pred, pz_inN (show j < 24 by omega) (by decide), nI_clamp (by omega), ← w1, pz_xnext]
      simp only [gv_bind]
      rw [if_neg hz]; exact c2
