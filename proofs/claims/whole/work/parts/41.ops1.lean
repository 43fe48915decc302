/-! PURE, 41: the calls whose answers are read off -/
theorem pz_w10 (a lo hi : Int32) : (pX10_isWithin a.toInt64 lo hi = 0) ↔ ¬ iv_in a lo.toInt hi.toInt := by
  rw [pz_within, pz_if10, Int32.toInt_toInt64]; rfl
theorem pz_x11 (a : Int32) (lo hi : Int64) : (pX11_in a.toInt64 lo hi = 0) ↔ ¬ iv_in a lo.toInt hi.toInt := by
  rw [pz_xin, pz_if10, Int32.toInt_toInt64]; rfl
theorem pz_sq10 (a : Int32) : (pX10_isSquare a.toInt64 = 0) ↔ ¬ iv_in a 0 63 := pz_w10 a 0 63
theorem pz_sq11 (a : Int32) : (pX11_isSquare a.toInt64 = 0) ↔ ¬ iv_in a 0 63 := pz_x11 a 0 63
theorem pz_if_t {β : Type} {c : Prop} [Decidable c] {P : Prop} (h : c ↔ ¬ P) (hp : P) (x y : β) : (if c then x else y) = y := if_neg (fun z => (h.mp z) hp)
theorem pz_if_f {β : Type} {c : Prop} [Decidable c] {P : Prop} (h : c ↔ ¬ P) (hp : ¬ P) (x y : β) : (if c then x else y) = x := if_pos (h.mpr hp)
theorem pz_idx (k n : Nat) : nI k * 64 + nI n = nI (k * 64 + n) := by
  rw [show nI k * 64 = nI (k * 64) from nI_mul k 64, nI_add]
theorem pz_idx2 (k n : Nat) : (64 : Int32) * nI k + nI n = nI (k * 64 + n) := by
  rw [show (64 : Int32) * nI k = nI (64 * k) from nI_mul 64 k, nI_add, Nat.mul_comm]
theorem pz_trait {n k : Nat} (hn : n < 64) (hk : k < 5) (σ : gs_S) : pX2_trait (nI n) (nI k) σ = some (σ.1 3 (k * 64 + n)) := by
  unfold pX2_trait
  rw [pz_idx, pz_inN (by omega) (by decide), nI_clamp (by omega)]
theorem pz_put {n k : Nat} (hn : n < 64) (hk : k < 5) (v : Int32) (σ : gs_S) : pX2_put (nI n) (nI k) v σ = some (gs_u σ 3 (k * 64 + n) v) := by
  unfold pX2_put
  rw [pz_idx, pz_inN (by omega) (by decide), nI_clamp (by omega)]; rfl
theorem pz_most : ∀ k, k < 5 → (gs_most k).toInt = (pX11_mostOf (nI k)).toInt64.toInt ∧ (gs_most k).toInt = [99, 4, 9, 1, 3].getD k 0 := by decide +kernel
theorem op_make (σ : gs_S) (hI : inv σ) (a1 : Int32) (a2 : Int32) (a3 : Int32) : ∃ (r : Int32) (σ1 : gs_S) (σ2 : gs_S), pX10_make a1 a2 a3 σ = some (r, σ1) ∧ pX11_make a1 a2 a3 σ1 = some (r, σ2) ∧ inv σ2 := by
  unfold pX10_make pX11_make
  by_cases h1 : iv_in a1 0 63
  rotate_left
  · exact ⟨-1, σ, σ, pz_if_f (pz_sq10 a1) h1 _ _, pz_if_f (pz_sq11 a1) h1 _ _, hI⟩
  rw [pz_if_t (pz_sq10 a1) h1]
  by_cases h2 : iv_in a2 0 4
  rotate_left
  · exact ⟨-1, σ, σ, pz_if_f (pz_w10 a2 0 4) h2 _ _, by rw [pz_if_t (pz_sq11 a1) h1, pz_if_f (pz_x11 a2 0 4) h2], hI⟩
  rw [pz_if_t (pz_w10 a2 0 4) h2]
  obtain ⟨n, hn, rfl⟩ := pz_nat 63 h1 (by decide)
  obtain ⟨k, hk, rfl⟩ := pz_nat 4 h2 (by decide)
  rw [pz_inN (by omega) (by decide), nI_clamp (by omega)]
  obtain ⟨m1, m2⟩ := pz_most k (by omega)
  by_cases h3 : iv_in a3 0 (gs_most k).toInt
  rotate_left
  · exact ⟨-1, σ, σ, pz_if_f (pz_w10 a3 0 (gs_most k)) h3 _ _, by rw [pz_if_t (pz_sq11 (nI n)) h1, pz_if_t (pz_x11 (nI k) 0 4) h2, pz_if_f (pz_x11 a3 0 _) (by rw [← m1]; exact h3)], hI⟩
  rw [pz_if_t (pz_w10 a3 0 (gs_most k)) h3, pz_trait (by omega) (by omega), pz_put (by omega) (by omega)]
  refine ⟨σ.1 3 (k * 64 + n), gs_u σ 3 (k * 64 + n) a3, gs_u (gs_u σ 3 (k * 64 + n) a3) 64 (k * 64 + n) a3, rfl, ?_, ?_⟩
  · rw [pz_if_t (pz_sq11 (nI n)) h1, pz_if_t (pz_x11 (nI k) 0 4) h2, pz_if_t (pz_x11 a3 0 _) (by rw [← m1]; exact h3), pz_idx2, pz_inN (by omega) (by decide), nI_clamp (by omega)]
    simp only [gv_let, pz_inN (show k * 64 + n < 320 by omega) (by decide)]
    show some ((gs_u σ 3 (k * 64 + n) a3).1 64 (k * 64 + n), _) = _
    rw [pz_u, if_neg (by decide)]
    rw [hI.1.1 (k * 64 + n) (by omega)]
  · obtain ⟨⟨i1, i2, i3⟩, hrest⟩ := hI
    refine ⟨⟨?_, ?_, ?_⟩, hrest⟩
    · intro j hj
      show upd (σ.1 3) _ _ j = upd (σ.1 64) _ _ j
      simp only [pz_upd]
      rw [i1 j hj]
    · intro j hj
      show iv_in (upd (σ.1 3) _ _ j) 0 99
      simp only [pz_upd]
      by_cases e : j = k * 64 + n
      · rw [if_pos e]
        have : k = 0 := by omega
        subst this
        exact ⟨h3.1, by have := h3.2; rw [m2] at this; simpa using this⟩
      · rw [if_neg e]; exact i2 j hj
    · intro j hj
      show iv_in (upd (σ.1 3) _ _ (64 + j)) 0 4
      simp only [pz_upd]
      by_cases e : 64 + j = k * 64 + n
      · rw [if_pos e]
        have : k = 1 := by omega
        subst this
        exact ⟨h3.1, by have := h3.2; rw [m2] at this; simpa using this⟩
      · rw [if_neg e]; exact i3 j hj
theorem op_set (σ : gs_S) (hI : inv σ) (a1 : Int32) (a2 : Int32) : ∃ (r : Int32) (σ1 : gs_S) (σ2 : gs_S), pX10_set a1 a2 σ = some (r, σ1) ∧ pX11_set a1 a2 σ1 = some (r, σ2) ∧ inv σ2 := by
  unfold pX10_set pX11_set
  by_cases h1 : iv_in a1 0 1
  rotate_left
  · exact ⟨-1, σ, σ, pz_if_f (pz_w10 a1 0 1) h1 _ _, pz_if_f (pz_x11 a1 0 1) h1 _ _, hI⟩
  rw [pz_if_t (pz_w10 a1 0 1) h1]
  by_cases h2 : iv_in a2 0 99
  rotate_left
  · exact ⟨-1, σ, σ, pz_if_f (pz_w10 a2 0 99) h2 _ _, by rw [pz_if_t (pz_x11 a1 0 1) h1, pz_if_f (pz_x11 a2 0 99) h2], hI⟩
  rw [pz_if_t (pz_w10 a2 0 99) h2]
  obtain ⟨n, hn, rfl⟩ := pz_nat 1 h1 (by decide)
  obtain ⟨i1, i2, i3, ⟨s1, s2⟩, ⟨s3, s4⟩, i6⟩ := hI
  rcases (show n = 0 ∨ n = 1 by omega) with rfl | rfl
  · refine ⟨σ.1 1 4, gs_u σ 1 4 a2, gs_u (gs_u σ 1 4 a2) 69 0 a2, rfl, ?_, i1, i2, i3, ⟨rfl, h2⟩, ⟨s3, s4⟩, i6⟩
    rw [pz_if_t (pz_x11 (nI 0) 0 1) h1, pz_if_t (pz_x11 a2 0 99) h2, s1]; rfl
  · refine ⟨σ.1 1 5, gs_u σ 1 5 a2, gs_u (gs_u σ 1 5 a2) 69 1 a2, rfl, ?_, i1, i2, i3, ⟨s1, s2⟩, ⟨rfl, h2⟩, i6⟩
    rw [pz_if_t (pz_x11 (nI 1) 0 1) h1, pz_if_t (pz_x11 a2 0 99) h2, s3]; rfl
theorem op_home (σ : gs_S) (hI : inv σ)  : ∃ (r : Int32) (σ1 : gs_S) (σ2 : gs_S), pX10_home  σ = some (r, σ1) ∧ pX11_home  σ1 = some (r, σ2) ∧ inv σ2 := by
  obtain ⟨i1, ⟨m, hm, e1, e2, i2⟩, i3⟩ := hI
  refine ⟨σ.1 4 3, gs_u σ 4 3 0, gs_u (gs_u σ 4 3 0) 63 4 0, rfl, ?_, i1, ⟨0, by decide, rfl, rfl, fun k h => absurd h (by omega)⟩, i3⟩
  rw [e1, ← e2]; rfl
theorem op_deaf (σ : gs_S) (hI : inv σ)  : ∃ (r : Int32) (σ1 : gs_S) (σ2 : gs_S), pX10_deaf  σ = some (r, σ1) ∧ pX11_deaf  σ1 = some (r, σ2) ∧ inv σ2 := by
  obtain ⟨i1, i2, i3, i4, i5, ⟨s0, m, hm, e1, e2, i6⟩, i7⟩ := hI
  refine ⟨σ.1 10 4, gs_u σ 10 4 0, gs_u (gs_u σ 10 4 0) 63 10 0, rfl, ?_, i1, i2, i3, i4, i5, ⟨s0, 0, by decide, rfl, rfl, fun k h => absurd h (by omega)⟩, i7⟩
  rw [e1, ← e2]; rfl
theorem op_slip (σ : gs_S) (hI : inv σ) (a1 : Int32) (a2 : Int32) : ∃ (r : Int32) (σ1 : gs_S) (σ2 : gs_S), pX10_slip a1 a2 σ = some (r, σ1) ∧ pX11_slip a1 a2 σ1 = some (r, σ2) ∧ inv σ2 := by
  unfold pX10_slip pX11_slip
  by_cases h1 : iv_in a1 0 3
  rotate_left
  · exact ⟨-1, σ, σ, pz_if_f (pz_w10 a1 0 3) h1 _ _, pz_if_f (pz_x11 a1 0 3) h1 _ _, hI⟩
  rw [pz_if_t (pz_w10 a1 0 3) h1]
  by_cases h2 : iv_in a2 0 99
  rotate_left
  · exact ⟨-1, σ, σ, pz_if_f (pz_w10 a2 0 99) h2 _ _, by rw [pz_if_t (pz_x11 a1 0 3) h1, pz_if_f (pz_x11 a2 0 99) h2], hI⟩
  rw [pz_if_t (pz_w10 a2 0 99) h2]
  obtain ⟨n, hn, rfl⟩ := pz_nat 3 h1 (by decide)
  obtain ⟨i1, i2, i3, i4, i5, ⟨s0, i6⟩, i7⟩ := hI
  refine ⟨σ.1 11 n, gs_u σ 11 n a2, gs_u (gs_u σ 11 n a2) 70 n a2, ?_, ?_, i1, i2, i3, i4, i5, ⟨?_, i6⟩, i7⟩
  · simp only [pz_inN (show n < 4 by omega) (by decide), nI_clamp (show n < 2 ^ 31 by omega), gv_let]
  · rw [pz_if_t (pz_x11 (nI n) 0 3) h1, pz_if_t (pz_x11 a2 0 99) h2]
    simp only [pz_inN (show n < 4 by omega) (by decide), nI_clamp (show n < 2 ^ 31 by omega), gv_let]
    show some (σ.1 70 n, _) = _
    rw [(s0 n (by omega)).1]
  · intro j hj
    show upd (σ.1 11) n a2 j = upd (σ.1 70) n a2 j ∧ iv_in (upd (σ.1 11) n a2 j) 0 99
    simp only [pz_upd]
    by_cases e : j = n
    · rw [if_pos e, if_pos e]; exact ⟨rfl, h2⟩
    · rw [if_neg e, if_neg e]; exact s0 j hj
