/-! PURE, 42: loops; told, hear, sleigh, back, step -/
theorem gv_loop_s {S E : Type} (b : S → Option (S ⊕ E)) (n : Nat) (s t : S) (h : b s = some (.inl t)) : gv_loop b (n + 1) s = gv_loop b n t := by
  rw [gv_loop, h]
theorem gv_loop_x {S E : Type} (b : S → Option (S ⊕ E)) (n : Nat) (s : S) (e : E) (h : b s = some (.inr e)) : gv_loop b (n + 1) s = some e := by
  rw [gv_loop, h]
/-- a loop that goes through f 0, f 1 .. f n and ends there -/
theorem gv_for {S E : Type} (b : S → Option (S ⊕ E)) (f : Nat → S) (n N : Nat) (hn : n < N) (e : E) (hs : ∀ k, k < n → b (f k) = some (.inl (f (k + 1)))) (he : b (f n) = some (.inr e)) : gv_loop b N (f 0) = some e := by
  have key : ∀ (d k M : Nat), k + d = n → d < M → gv_loop b M (f k) = some e := by
    intro d
    induction d with
    | zero =>
      intro k M h1 h2
      obtain ⟨M', rfl⟩ : ∃ M', M = M' + 1 := ⟨M - 1, by omega⟩
      have : k = n := by omega
      subst this
      exact gv_loop_x b M' _ e he
    | succ d ih =>
      intro k M h1 h2
      obtain ⟨M', rfl⟩ : ∃ M', M = M' + 1 := ⟨M - 1, by omega⟩
      rw [gv_loop_s b M' _ _ (hs k (by omega))]
      exact ih (k + 1) M' (by omega) (by omega)
  exact key n 0 N (by omega) hn
theorem gv_N_lt {n : Nat} (h : n < 100000) : n < gv_N := h
theorem pz_ne {k : Nat} (n : Nat) (x : Int32) (hx : x = nI n) (hk : k < 2 ^ 31) (hn : n < 2 ^ 31) (h : ¬ k = n) : ¬ nI k = x := fun q => h ((nI_eq hk hn).mp (q.trans hx))
theorem pz_t0 {n : Nat} (hn : n < 64) (σ : gs_S) : pX2_trait (nI n) (0 : Int32) σ = some (σ.1 3 n) := by
  have h := pz_trait hn (show 0 < 5 by decide) σ
  rw [Nat.zero_mul, Nat.zero_add] at h; exact h
theorem pz_t1 {n : Nat} (hn : n < 64) (σ : gs_S) : pX2_trait (nI n) (1 : Int32) σ = some (σ.1 3 (64 + n)) := pz_trait hn (show 1 < 5 by decide) σ
theorem pz_t2 {n : Nat} (hn : n < 64) (σ : gs_S) : pX2_trait (nI n) (2 : Int32) σ = some (σ.1 3 (128 + n)) := pz_trait hn (show 2 < 5 by decide) σ
theorem pz_t3 {n : Nat} (hn : n < 64) (σ : gs_S) : pX2_trait (nI n) (3 : Int32) σ = some (σ.1 3 (192 + n)) := pz_trait hn (show 3 < 5 by decide) σ
theorem pz_t4 {n : Nat} (hn : n < 64) (σ : gs_S) : pX2_trait (nI n) (4 : Int32) σ = some (σ.1 3 (256 + n)) := pz_trait hn (show 4 < 5 by decide) σ
theorem pz_p0 {n : Nat} (hn : n < 64) (v : Int32) (σ : gs_S) : pX2_put (nI n) (0 : Int32) v σ = some (gs_u σ 3 n v) := by
  have h := pz_put hn (show 0 < 5 by decide) v σ
  rw [Nat.zero_mul, Nat.zero_add] at h; exact h
theorem pz_p1 {n : Nat} (hn : n < 64) (v : Int32) (σ : gs_S) : pX2_put (nI n) (1 : Int32) v σ = some (gs_u σ 3 (64 + n) v) := pz_put hn (show 1 < 5 by decide) v σ
theorem pz_p2 {n : Nat} (hn : n < 64) (v : Int32) (σ : gs_S) : pX2_put (nI n) (2 : Int32) v σ = some (gs_u σ 3 (128 + n) v) := pz_put hn (show 2 < 5 by decide) v σ
theorem pz_p3 {n : Nat} (hn : n < 64) (v : Int32) (σ : gs_S) : pX2_put (nI n) (3 : Int32) v σ = some (gs_u σ 3 (192 + n) v) := pz_put hn (show 3 < 5 by decide) v σ
theorem pz_p4 {n : Nat} (hn : n < 64) (v : Int32) (σ : gs_S) : pX2_put (nI n) (4 : Int32) v σ = some (gs_u σ 3 (256 + n) v) := pz_put hn (show 4 < 5 by decide) v σ
theorem pz_part : ∀ k, k < 5 → gs_part k = pX11_partOf (nI k) := by decide +kernel
theorem pz_bare {n : Nat} (hn : n < 64) (t : Int32) (σ : gs_S) (hk : iv_in (σ.1 3 (64 + n)) 0 4) : pX2_bareBearing (nI n) t σ = some (pX11_bearsBy t (σ.1 3 (64 + n))) := by
  unfold pX2_bareBearing
  rw [show (1 : Int32) = nI 1 from rfl, pz_trait hn (by decide)]
  show gv_in (σ.1 3 (1 * 64 + n)) 5 _ = _
  rw [Nat.one_mul]
  obtain ⟨k, hk1, e⟩ := pz_nat 4 hk (by decide)
  rw [e, pz_inN (by omega) (by decide), nI_clamp (by omega), pz_part k (by omega)]
  rfl
def zB (f : Nat → Int32) (n : Nat) : Int32 := pX11_bearsBy (f n) (f (64 + n)) + (60 : Int32) * f (256 + n)
theorem pz_bearAt {n : Nat} (hn : n < 64) (t : Int32) (σ : gs_S) (hk : iv_in (σ.1 3 (64 + n)) 0 4) : pX2_bearingAt (nI n) t σ = some (pX11_bearsBy t (σ.1 3 (64 + n)) + (60 : Int32) * σ.1 3 (256 + n)) := by
  unfold pX2_bearingAt
  rw [pz_bare hn t σ hk, show (4 : Int32) = nI 4 from rfl, pz_trait hn (by decide)]
  rfl
theorem pz_bear {n : Nat} (hn : n < 64) (σ : gs_S) (hk : iv_in (σ.1 3 (64 + n)) 0 4) : pX2_bearing (nI n) σ = some (zB (σ.1 3) n) := by
  unfold pX2_bearing
  rw [show (0 : Int32) = nI 0 from rfl, pz_trait hn (by decide)]
  show gv_bind (pX2_bearingAt (nI n) (σ.1 3 (0 * 64 + n)) σ) _ = _
  rw [Nat.zero_mul, Nat.zero_add, pz_bearAt hn _ σ hk]
  rfl
theorem pz_xbear {n : Nat} (hn : n < 64) (σ : gs_S) : pX11_bears (nI n) σ = some (zB (σ.1 64) n) := by
  unfold pX11_bears
  rw [show (64 : Int32) + nI n = nI (64 + n) from nI_add 64 n, show (256 : Int32) + nI n = nI (256 + n) from nI_add 256 n, pz_inN (by omega) (by decide), pz_inN (by omega) (by decide), pz_inN (by omega) (by decide), nI_clamp (by omega), nI_clamp (by omega), nI_clamp (by omega)]
  rfl
theorem zB_eq {f g : Nat → Int32} (h : ∀ k, k < 320 → f k = g k) {n : Nat} (hn : n < 64) : zB f n = zB g n := by
  unfold zB
  rw [h n (by omega), h (64 + n) (by omega), h (256 + n) (by omega)]
theorem pz_pos {x : Int32} (h : iv_in x 0 99) : x ≤ 0 ↔ x = 0 := by
  rw [Int32.le_iff_toInt_le]
  constructor
  · intro q
    have h0 : (0 : Int32).toInt = 0 := rfl
    exact Int32.toInt_inj.mp (by have := h.1; omega)
  · rintro rfl; decide
theorem op_told (σ : gs_S) (hI : inv σ) (a1 : Int32) (a2 : Int32) : ∃ (r : Int32), pX10_told a1 a2 σ = some r ∧ pX11_told a1 a2 σ = some r := by
  unfold pX10_told pX11_told
  by_cases h1 : iv_in a1 0 63
  rotate_left
  · exact ⟨-1, pz_if_f (pz_sq10 a1) h1 _ _, pz_if_f (pz_sq11 a1) h1 _ _⟩
  rw [pz_if_t (pz_sq10 a1) h1, pz_if_t (pz_sq11 a1) h1]
  by_cases h2 : iv_in a2 0 6
  rotate_left
  · exact ⟨-1, pz_if_f (pz_w10 a2 0 6) h2 _ _, pz_if_f (pz_x11 a2 0 6) h2 _ _⟩
  rw [pz_if_t (pz_w10 a2 0 6) h2, pz_if_t (pz_x11 a2 0 6) h2]
  obtain ⟨n, hn, rfl⟩ := pz_nat 63 h1 (by decide)
  obtain ⟨k, hk, rfl⟩ := pz_nat 6 h2 (by decide)
  obtain ⟨⟨i1, i2, i3⟩, -⟩ := hI
  have hn : n < 64 := by omega
  by_cases h5 : k = 5
  · subst h5
    refine ⟨zB (σ.1 3) n, ?_, ?_⟩
    · rw [if_pos (show nI 5 = (5 : Int32) from rfl), pz_bear hn σ (i3 n hn)]; rfl
    · rw [if_pos (by decide), if_pos (show nI 5 = (5 : Int32) from rfl), pz_xbear hn, zB_eq i1 hn]; rfl
  by_cases h6 : k = 6
  · subst h6
    rw [if_neg (by decide), if_pos (show nI 6 = (6 : Int32) from rfl), if_pos (by decide), if_neg (by decide), pz_inN (by omega) (by decide), nI_clamp (by omega), ← i1 n (by omega)]
    by_cases hz : σ.1 3 n = 0
    · refine ⟨-4, ?_, if_pos hz⟩
      unfold pX2_pitch
      rw [pz_t0 hn]
      show gv_bind (if σ.1 3 n ≤ 0 then _ else _) _ = _
      rw [if_pos ((pz_pos (i2 n hn)).mpr hz)]; rfl
    · have hz2 : ¬ σ.1 3 n ≤ 0 := fun q => hz ((pz_pos (i2 n hn)).mp q)
      refine ⟨(9000 : Int32) / σ.1 3 n + (7 : Int32) * σ.1 3 (64 + n), ?_, ?_⟩
      · unfold pX2_pitch
        rw [pz_t0 hn]
        show gv_bind (if σ.1 3 n ≤ 0 then _ else gv_nz (σ.1 3 n) _) _ = _
        rw [if_neg hz2, pz_t1 hn]
        unfold gv_nz
        rw [if_neg hz]
        rfl
      · rw [if_neg hz, show (64 : Int32) + nI n = nI (64 + n) from nI_add 64 n, pz_inN (by omega) (by decide), pz_inN (by omega) (by decide), nI_clamp (by omega), ← i1 (64 + n) (by omega)]
        unfold pX11_pitchOf gv_nz
        rw [if_neg hz]; rfl
  · refine ⟨σ.1 3 (k * 64 + n), ?_, ?_⟩
    · rw [if_neg (pz_ne 5 5 rfl (by omega) (by decide) h5), if_neg (pz_ne 6 6 rfl (by omega) (by decide) h6), pz_trait hn (by omega)]; rfl
    · rw [if_neg (show ¬ (5 : Int32) ≤ nI k from fun q => absurd ((nI_leI (a := 5) (by decide) (by omega)).mp q) (by omega)), pz_idx2, pz_inN (by omega) (by decide), nI_clamp (by omega), i1 (k * 64 + n) (by omega)]
theorem op_back (σ : gs_S) (hI : inv σ) (a1 : Int32) : ∃ (r : Int32) (σ1 : gs_S) (σ2 : gs_S), pX10_back a1 σ = some (r, σ1) ∧ pX11_back a1 σ1 = some (r, σ2) ∧ inv σ2 := by
  unfold pX10_back pX11_back
  by_cases h1 : iv_in a1 1 24
  rotate_left
  · exact ⟨-1, σ, σ, pz_if_f (pz_w10 a1 1 24) h1 _ _, pz_if_f (pz_x11 a1 1 24) h1 _ _, hI⟩
  rw [pz_if_t (pz_w10 a1 1 24) h1]
  obtain ⟨n, hn, rfl⟩ := pz_nat 24 ⟨by have := h1.1; omega, h1.2⟩ (by decide)
  obtain ⟨i1, i2, ⟨m, hm, e1, e2, i3⟩, i4⟩ := id hI
  by_cases h2 : n ≤ m
  · have hs : nI m - nI n = nI (m - n) := by
      have h9 : nI m = nI (m - n) + nI n := by rw [nI_add]; congr 1; omega
      rw [h9]; exact Int32.add_sub_cancel _ _
    have hle : nI n ≤ nI m := nI_le h2 (by omega)
    refine ⟨nI (m - n), gs_u σ 8 1 (nI (m - n)), gs_u (gs_u σ 8 1 (nI (m - n))) 63 6 (nI (m - n)), ?_, ?_, i1, i2, ⟨m - n, by omega, rfl, rfl, fun k hk => i3 k (by omega)⟩, i4⟩
    · rw [e1, if_pos hle, hs]; rfl
    · rw [pz_if_t (pz_x11 (nI n) 1 24) h1]
      show (if nI n ≤ σ.1 63 6 then gv_let (gs_u _ 63 6 (σ.1 63 6 - nI n)) _ else _) = _
      rw [e2, if_pos hle, hs]; rfl
  · have hle : ¬ nI n ≤ nI m := nI_ge (by omega) (by omega)
    refine ⟨-2, σ, σ, ?_, ?_, hI⟩
    · rw [e1, if_neg hle]
    · rw [pz_if_t (pz_x11 (nI n) 1 24) h1, e2, if_neg hle]
theorem op_hear (σ : gs_S) (hI : inv σ) (a1 : Int32) (a2 : Int32) (a3 : Int32) : ∃ (r : Int32) (σ1 : gs_S) (σ2 : gs_S), pX10_hear a1 a2 a3 σ = some (r, σ1) ∧ pX11_hear a1 a2 a3 σ1 = some (r, σ2) ∧ inv σ2 := by
  unfold pX10_hear pX11_hear
  by_cases h1 : iv_in a1 0 3
  rotate_left
  · exact ⟨-1, σ, σ, pz_if_f (pz_w10 a1 0 3) h1 _ _, pz_if_f (pz_x11 a1 0 3) h1 _ _, hI⟩
  rw [pz_if_t (pz_w10 a1 0 3) h1]
  by_cases h2 : iv_in a2 0 63
  rotate_left
  · exact ⟨-1, σ, σ, pz_if_f (pz_sq10 a2) h2 _ _, by rw [pz_if_t (pz_x11 a1 0 3) h1, pz_if_f (pz_sq11 a2) h2], hI⟩
  rw [pz_if_t (pz_sq10 a2) h2]
  by_cases h3 : iv_in a3 90 9999
  rotate_left
  · exact ⟨-1, σ, σ, pz_if_f (pz_w10 a3 90 9999) h3 _ _, by rw [pz_if_t (pz_x11 a1 0 3) h1, pz_if_t (pz_sq11 a2) h2, pz_if_f (pz_x11 a3 90 9999) h3], hI⟩
  rw [pz_if_t (pz_w10 a3 90 9999) h3]
  obtain ⟨i1, i2, i3, i4, i5, ⟨s0, m, hm, e1, e2, i6⟩, i7⟩ := id hI
  by_cases hf : m = 16
  · subst hf
    refine ⟨-3, σ, σ, ?_, ?_, hI⟩
    · rw [e1, if_neg (by decide)]
    · rw [pz_if_t (pz_x11 a1 0 3) h1, pz_if_t (pz_sq11 a2) h2, pz_if_t (pz_x11 a3 90 9999) h3, e2, if_pos (show nI 16 = (16 : Int32) from rfl)]
  · have hm : m < 16 := by omega
    obtain ⟨τ, eτ⟩ : ∃ τ, τ = gs_u (gs_u (gs_u (gs_u σ 12 m a1) 13 m a2) 14 m a3) 10 4 (nI (m + 1)) := ⟨_, rfl⟩
    have hA : pX1_add a1 a2 a3 σ = some τ := by
      unfold pX1_add
      simp only [gv_let, pz_u, e1, pz_inN hm (by decide), nI_clamp (show m < 2 ^ 31 by omega), nI_1, Nat.reduceEqDiff, reduceIte]
      rw [eτ]
    have t1 : τ.1 63 10 = nI m := by rw [eτ]; exact e2
    refine ⟨nI (m + 1), τ, gs_u (gs_u (gs_u (gs_u τ 71 (3 * m) a1) 71 (3 * m + 1) a2) 71 (3 * m + 2) a3) 63 10 (nI (m + 1)), ?_, ?_, ?_⟩
    · rw [e1, if_pos (show nI m < (16 : Int32) from nI_lt (b := 16) hm (by decide)), hA]
      show some (τ.1 10 4, τ) = _
      rw [eτ]; rfl
    · rw [pz_if_t (pz_x11 a1 0 3) h1, pz_if_t (pz_sq11 a2) h2, pz_if_t (pz_x11 a3 90 9999) h3, t1, if_neg (show ¬ nI m = (16 : Int32) from fun q => absurd ((nI_eq (b := 16) (by omega) (by decide)).mp q) (by omega))]
      simp only [gv_let, pz_u, t1, Nat.reduceEqDiff, reduceIte, show (3 : Int32) * nI m = nI (3 * m) from nI_mul 3 m, nI_1, show nI (3 * m) + (2 : Int32) = nI (3 * m + 2) from nI_add (3 * m) 2, pz_inN (show 3 * m < 48 by omega) (by decide), pz_inN (show 3 * m + 1 < 48 by omega) (by decide), pz_inN (show 3 * m + 2 < 48 by omega) (by decide), nI_clamp (show 3 * m < 2 ^ 31 by omega), nI_clamp (show 3 * m + 1 < 2 ^ 31 by omega), nI_clamp (show 3 * m + 2 < 2 ^ 31 by omega), pz_upd]
    · subst eτ
      refine ⟨i1, i2, i3, i4, i5, ⟨s0, m + 1, by omega, rfl, rfl, ?_⟩, i7⟩
      intro k hk
      show upd (σ.1 12) m a1 k = upd (upd (upd (σ.1 71) (3 * m) a1) (3 * m + 1) a2) (3 * m + 2) a3 (3 * k) ∧ upd (σ.1 13) m a2 k = upd (upd (upd (σ.1 71) (3 * m) a1) (3 * m + 1) a2) (3 * m + 2) a3 (3 * k + 1) ∧ upd (σ.1 14) m a3 k = upd (upd (upd (σ.1 71) (3 * m) a1) (3 * m + 1) a2) (3 * m + 2) a3 (3 * k + 2) ∧ iv_in (upd (σ.1 12) m a1 k) 0 3 ∧ iv_in (upd (σ.1 13) m a2 k) 0 63 ∧ iv_in (upd (σ.1 14) m a3 k) 90 9999
      simp only [pz_upd]
      by_cases e : k = m
      · subst e
        simp only [if_true, if_pos rfl, if_neg (show ¬ 3 * k = 3 * k + 1 by omega), if_neg (show ¬ 3 * k = 3 * k + 2 by omega), if_neg (show ¬ 3 * k + 1 = 3 * k + 2 by omega)]
        exact ⟨trivial, trivial, trivial, h1, h2, h3⟩
      · rw [if_neg e, if_neg e, if_neg e, if_neg (by omega), if_neg (by omega), if_neg (by omega), if_neg (by omega), if_neg (by omega), if_neg (by omega), if_neg (by omega), if_neg (by omega), if_neg (by omega)]
        exact i6 k (by omega)
